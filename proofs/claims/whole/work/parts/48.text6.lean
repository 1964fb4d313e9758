/-! the trial stays in form while the text is read -/
theorem WF_J {a : Nat → Int32} {np ne j : Nat} {v : Int32} (h : WF a np ne) (h2 : j ≠ 2) (h3 : j ≠ 3) (he : ∀ e, e < 8 → j ≠ 4 + 3 * e + 2) (hp : ∀ p, p < 8 → j ≠ 28 + 7 * p + 0 ∧ j ≠ 28 + 7 * p + 6) : WF (upd a j v) np ne := by
  obtain ⟨e1, e2, e3, e4, e5, e6, e7⟩ := h
  refine ⟨by rw [ud_n (by omega)]; exact e1, e2, by rw [ud_n (by omega)]; exact e3, e4, fun e q => ?_, fun p q => ?_, fun p q => ?_⟩
  · rw [ud_n (fun z => he e (by omega) z.symm)]; exact e5 e q
  · rw [ud_n (fun z => (hp p (by omega)).1 z.symm)]; exact e6 p q
  · rw [ud_n (fun z => (hp p (by omega)).2 z.symm)]; exact e7 p q
theorem WF_E {a : Nat → Int32} {np ne : Nat} {x w : Int32} (h : WF a np ne) (h8 : ne < 8) : WF (upd (eBeg a ne x w) 2 (nI (ne + 1))) np (ne + 1) := by
  obtain ⟨e1, e2, e3, e4, e5, e6, e7⟩ := h
  refine ⟨by rw [ud_n (by omega), eBeg_lo (by omega)]; exact e1, e2, by rw [ud_s], h8, fun e q => ?_, fun p q => ?_, fun p q => ?_⟩
  · rw [ud_n (by omega)]
    unfold eBeg
    by_cases hz : e = ne
    · rw [hz, ud_s]; exact Or.inl rfl
    · rw [ud_n (by omega), ud_n (by omega), ud_n (by omega)]; exact e5 e (by omega)
  · rw [ud_n (by omega)]; unfold eBeg; rw [ud_n (by omega), ud_n (by omega), ud_n (by omega)]; exact e6 p q
  · rw [ud_n (by omega)]; unfold eBeg; rw [ud_n (by omega), ud_n (by omega), ud_n (by omega)]; exact e7 p q
theorem WF_O {a : Nat → Int32} {np ne k : Nat} {b : Int32} (h : WF a np ne) (h8 : np < 8) (hk : k < 6) : WF (upd (oBeg a np (nI k) b) 3 (nI (np + 1))) (np + 1) ne := by
  obtain ⟨e1, e2, e3, e4, e5, e6, e7⟩ := h
  refine ⟨by rw [ud_s], h8, by rw [ud_n (by omega), oBeg_lo (by omega)]; exact e3, e4, fun e q => ?_, fun p q => ?_, fun p q => ?_⟩
  · rw [ud_n (by omega), oBeg_lo (by omega)]; exact e5 e q
  · rw [ud_n (by omega)]
    unfold oBeg
    by_cases hz : p = np
    · rw [hz, ud_n (by omega), ud_n (by omega), ud_n (by omega), ud_n (by omega), ud_n (by omega), ud_n (by omega), ud_s]; exact ⟨k, hk, rfl⟩
    · rw [ud_n (by omega), ud_n (by omega), ud_n (by omega), ud_n (by omega), ud_n (by omega), ud_n (by omega), ud_n (by omega)]; exact e6 p (by omega)
  · rw [ud_n (by omega)]
    unfold oBeg
    by_cases hz : p = np
    · rw [hz, ud_s]; exact ⟨0, by omega, rfl⟩
    · rw [ud_n (by omega), ud_n (by omega), ud_n (by omega), ud_n (by omega), ud_n (by omega), ud_n (by omega), ud_n (by omega)]; exact e7 p (by omega)
def WI (M : ex_M) : Prop := ∃ np ne, WF (M.1 1) np ne
theorem WI_of {M N : ex_M} (h : WI M) (e : N.1 1 = M.1 1) : WI N := by unfold WI; rw [e]; exact h
theorem WI_stp {M : ex_M} (h : WI M) : WI (stp M) := WI_of h (stp_1 M (by decide))
theorem WI_tkW {M : ex_M} {w : Nat} (h : WI M) : WI (tkW M w).2 := WI_of h (tkW_1 M w (by decide))
theorem WI_tkN {M : ex_M} {mx : Int32} (h : WI M) : WI (tkN M mx).2 := WI_of h (tkN_1 M mx (by decide))
theorem WI_J {M : ex_M} {j : Nat} {v : Int32} (h : WI M) (h2 : j ≠ 2) (h3 : j ≠ 3) (he : ∀ e, e < 8 → j ≠ 4 + 3 * e + 2) (hp : ∀ p, p < 8 → j ≠ 28 + 7 * p + 0 ∧ j ≠ 28 + 7 * p + 6) : WI (mJ M 1 j v) := by
  obtain ⟨np, ne, w⟩ := h
  refine ⟨np, ne, ?_⟩
  simp only [mJ, wr_s]
  exact WF_J w h2 h3 he hp
theorem WI_toll {M : ex_M} (h : WI M) : WI (P_toll M).2 := by
  unfold P_toll
  cases (tkN M 99).1 with
  | true => exact WI_J (WI_tkN h) (by decide) (by decide) (fun e _ => by omega) (fun p _ => by omega)
  | false => exact WI_tkN h
theorem WI_adE {M : ex_M} {x w : Int32} (h : WI M) (h8 : (!decide (M.1 1 2 < 8)) = false) : WI (adE M x w) := by
  obtain ⟨np, ne, q⟩ := h
  have hn := lt8_of q.2.2.1 q.2.2.2.1 h8
  refine ⟨np, ne + 1, ?_⟩
  simp only [adE, mI, wr_s]
  rw [q.2.2.1, show ix (nI ne) = ne from nI_clamp (by omega)]
  exact WF_E q hn
theorem WI_adO {M : ex_M} {k : Nat} {b : Int32} (h : WI M) (hk : k < 6) (h8 : (!decide (M.1 1 3 < 8)) = false) : WI (adO M (nI k) b) := by
  obtain ⟨np, ne, q⟩ := h
  have hn := lt8_of q.1 q.2.1 h8
  refine ⟨np + 1, ne, ?_⟩
  simp only [adO, mI, wr_s]
  rw [q.1, show ix (nI np) = np from nI_clamp (by omega)]
  exact WF_O q hn hk
theorem WI_event {M : ex_M} (h : WI M) : WI (P_event M).2 := by
  unfold P_event
  cases h8 : (!decide (M.1 1 2 < 8)) with
  | true => exact h
  | false =>
    simp only [cond_false, pe0]
    have k0 : WI (tkN (stp M) 9999).2 := WI_tkN (WI_stp h)
    have e0 : (tkN (stp M) 9999).2.1 1 = M.1 1 := by rw [tkN_1 _ _ (by decide), stp_1 _ (by decide)]
    generalize (tkN (stp M) 9999) = z at k0 e0
    cases z.1 with
    | false => exact k0
    | true =>
      simp only [cond_true, pe1]
      have k1 : WI (tkW z.2 11).2 := WI_tkW k0
      have e1 : (tkW z.2 11).2.1 1 = M.1 1 := by rw [tkW_1 _ _ (by decide), e0]
      generalize (tkW z.2 11) = y at k1 e1
      cases y.1 with
      | false => exact k1
      | true =>
        simp only [cond_true, pe2, pe3]
        have k2 : WI (tkN (tkW y.2 12).2 99).2 := WI_tkN (WI_tkW k1)
        have e2 : (tkN (tkW y.2 12).2 99).2.1 1 = M.1 1 := by rw [tkN_1 _ _ (by decide), tkW_1 _ _ (by decide), e1]
        generalize (tkN (tkW y.2 12).2 99) = x at k2 e2
        cases x.1 with
        | false => exact k2
        | true => exact WI_adE k2 (by rw [e2]; exact h8)
theorem WI_po {M : ex_M} {w f n : Nat} {mx : Int32} (hn : n < 8) (hf : f = 2 ∨ f = 3 ∨ f = 4) (h : WI M) : WI (po w mx f n M).2 := by
  unfold po
  cases (tkW M w).1 with
  | false => exact WI_tkW h
  | true =>
    simp only [cond_true]
    cases (tkN (tkW M w).2 mx).1 with
    | false => exact WI_tkN (WI_tkW h)
    | true => exact WI_J (WI_tkN (WI_tkW h)) (by omega) (by omega) (fun e _ => by omega) (fun p _ => by omega)
theorem WI_one {M : ex_M} {k : Nat} (hk : k < 6) (h : WI M) : WI (P_one M (nI k)).2 := by
  unfold P_one
  cases h8 : (!decide (M.1 1 3 < 8)) with
  | true => exact h
  | false =>
    have hn : ix (M.1 1 3) < 8 := by
      obtain ⟨np, ne, q⟩ := h
      have := lt8_of q.1 q.2.1 h8
      rw [q.1, show ix (nI np) = np from nI_clamp (by omega)]; exact this
    simp only [cond_false, po0]
    have k0 := WI_po (w := 7) (f := 2) (n := ix (M.1 1 3)) (mx := 9999) hn (by decide) (WI_adO (k := k) (b := bif (tkW (stp M) 6).1 then 1 else 0) (WI_tkW (w := 6) (WI_stp h)) hk (by rw [tkW_1 _ _ (by decide), stp_1 _ (by decide)]; exact h8))
    generalize po 7 9999 2 (ix (M.1 1 3)) (adO (tkW (stp M) 6).2 (nI k) (bif (tkW (stp M) 6).1 then 1 else 0)) = z at k0
    rw [po1]
    cases hz : z.1 with
    | false => exact k0
    | true =>
      have k1 := WI_po (w := 8) (f := 3) (n := ix (M.1 1 3)) (mx := 23) hn (by decide) k0
      simp only [cond_true]
      generalize po 8 23 3 (ix (M.1 1 3)) z.2 = y at k1
      rw [po2]
      cases hy : y.1 with
      | false => exact k1
      | true => exact WI_po hn (by decide) k1
theorem WI_pk {M : ex_M} (h : WI M) : ∀ m k, k + m ≤ 6 → WI (pk M m k).2
  | 0, _, _ => h
  | m + 1, k, hm => by
    rw [pk]
    cases isWC M k with
    | true => exact WI_one (by omega) h
    | false => exact WI_pk h m (k + 1) (by omega)
theorem WI_item {M : ex_M} (h : WI M) : WI (P_item M).2 := by
  unfold P_item
  have k0 : WI (tkW M 13).2 := WI_tkW h
  generalize (tkW M 13) = z at k0
  cases z.1 with
  | true => exact WI_toll k0
  | false =>
    simp only [cond_false]
    cases isWC z.2 10 with
    | true => exact WI_event k0
    | false => exact WI_pk k0 6 0 (by omega)
theorem WI_pL : ∀ m k M, WI M → WI (pL m k M).2
  | 0, _, _, h => h
  | m + 1, k, M, h => by
    rw [pL]
    have k0 := WI_item h
    generalize P_item M = z at k0
    cases z.1 with
    | false => exact k0
    | true =>
      simp only [cond_true]
      by_cases h0 : z.2.1 3 4 = 0
      · rw [if_pos h0]; exact k0
      · rw [if_neg h0]
        by_cases h3 : z.2.1 3 4 = 3
        · rw [if_pos h3]; exact WI_pL m (k + 1) _ (WI_stp k0)
        · rw [if_neg h3]; exact k0
theorem WI_parse {M : ex_M} {l : Nat} (h : WI M) : WI (P_parse M l).2 := WI_pL 120 1 _ (WI_of h (by rw [stC_1 _ _ _ _ (by decide)]; rfl))
