/-! the whole text, on both sides -/
theorem isW_2 {A : ex_M} {w : Nat} (hw : w < 14) (h : isWC A w = true) : ix (A.1 3 6) - ix (A.1 3 5) = wln w ∧ A.1 4 (ix (A.1 3 5) + 0) = wch w 0 := by
  unfold isWC at h
  rw [Bool.and_eq_true, Bool.and_eq_true] at h
  refine ⟨of_decide_eq_true h.2.1, ?_⟩
  have h3 := h.2.2
  have key : ∀ w, w < 14 → 0 < wln w := by decide +kernel
  obtain ⟨m, hm⟩ : ∃ m, wln w = m + 1 := ⟨wln w - 1, by have := key w hw; omega⟩
  rw [hm, wdM, Bool.and_eq_true] at h3
  exact of_decide_eq_true h3.1
theorem ex_all : ∀ w1, w1 < 14 → ∀ w2, w2 < 14 → ((w1 < 6 ∨ w1 = 10 ∨ w1 = 13) ∧ (w2 < 6 ∨ w2 = 10 ∨ w2 = 13) ∧ wln w1 = wln w2 ∧ wch w1 0 = wch w2 0) → w1 = w2 := by decide +kernel
theorem isW_ex {A : ex_M} {w1 w2 : Nat} (h1 : w1 < 6 ∨ w1 = 10 ∨ w1 = 13) (h2 : w2 < 6 ∨ w2 = 10 ∨ w2 = 13) (k1 : isWC A w1 = true) (hne : w1 ≠ w2) : isWC A w2 = false := by
  cases h : isWC A w2 with
  | false => rfl
  | true =>
    have q1 := isW_2 (by omega) k1
    have q2 := isW_2 (by omega) h
    exact absurd (ex_all w1 (by omega) w2 (by omega) ⟨h1, h2, q1.1.symm.trans q2.1, q1.2.symm.trans q2.2⟩) hne
theorem pk_none {A : ex_M} : ∀ m k, (∀ j, k ≤ j → j < k + m → isWC A j = false) → pk A m k = (false, A)
  | 0, _, _ => rfl
  | m + 1, k, h => by rw [pk, h k (by omega) (by omega), cond_false, pk_none m (k + 1) (fun j h1 h2 => h j (by omega) (by omega))]
theorem pk_one {A : ex_M} {j : Nat} (hj : isWC A j = true) : ∀ m k, k ≤ j → j < k + m → (∀ i, k ≤ i → i < j → isWC A i = false) → pk A m k = P_one A (nI j)
  | 0, k, h1, h2, _ => by omega
  | m + 1, k, h1, h2, h => by
    rw [pk]
    by_cases e : k = j
    · rw [e, hj, cond_true]
    · rw [h k (by omega) (by omega), cond_false, pk_one hj m (k + 1) (by omega) (by omega) (fun i a b => h i (by omega) b)]
theorem kdL_none {B : ex_M} : ∀ m k a, (∀ j, k ≤ j → j < k + m → isWR B j = false) → kdL B m k a = a
  | 0, _, _, _ => rfl
  | m + 1, k, a, h => by rw [kdL, h k (by omega) (by omega), cond_false, kdL_none m (k + 1) a (fun j h1 h2 => h j (by omega) (by omega))]
theorem kdL_one {B : ex_M} {j : Nat} (hj : isWR B j = true) : ∀ m k a, k ≤ j → j < k + m → (∀ i, k ≤ i → i < k + m → i ≠ j → isWR B i = false) → kdL B m k a = nI j
  | 0, k, _, h1, h2, _ => by omega
  | m + 1, k, a, h1, h2, h => by
    rw [kdL]
    by_cases e : k = j
    · rw [e, hj, cond_true]
      exact kdL_none m (j + 1) _ (fun i a b => h i (by omega) (by omega) (by omega))
    · rw [h k (by omega) (by omega) e, cond_false, kdL_one hj m (k + 1) a (by omega) (by omega) (fun i a b c => h i (by omega) (by omega) c)]
/-- AN ITEM on both sides -/
theorem I_item {A B : ex_M} {n : Nat} (hn : n < 120) (h : TS A B n) : ((P_item A).1 = true ∧ TS (P_item A).2 (rdI B) (n + 1)) ∨ ((P_item A).1 = false ∧ Wr ((P_item A).2.1 3 5) (rdI B)) := by
  have we : ∀ w, isWR B w = isWC A w := fun w => isW_eq h.1
  unfold P_item rdI
  cases h13 : isWC A 13 with
  | true =>
    have hk : kdL B 6 0 (-1) = -1 := kdL_none 6 0 _ (fun j _ hj => by rw [we]; exact isW_ex (Or.inr (Or.inr rfl)) (Or.inl (by omega)) h13 (by omega))
    have h10 : isWR B 10 = false := by rw [we]; exact isW_ex (Or.inr (Or.inr rfl)) (Or.inr (Or.inl rfl)) h13 (by omega)
    rw [hk, if_pos (by decide), h10, cond_false, tkW_t h13]
    exact I_toll hn h h13
  | false =>
    rw [tkW_f h13]
    show (((bif isWC A 10 then P_event A else pk A 6 0).1 = true ∧ TS (bif isWC A 10 then P_event A else pk A 6 0).2 _ (n + 1)) ∨ ((bif isWC A 10 then P_event A else pk A 6 0).1 = false ∧ Wr ((bif isWC A 10 then P_event A else pk A 6 0).2.1 3 5) _))
    cases h10 : isWC A 10 with
    | true =>
      have hk : kdL B 6 0 (-1) = -1 := kdL_none 6 0 _ (fun j _ hj => by rw [we]; exact isW_ex (Or.inr (Or.inl rfl)) (Or.inl (by omega)) h10 (by omega))
      rw [hk, if_pos (by decide), we, h10, cond_true, cond_true]
      exact I_event hn h h10
    | false =>
      rw [cond_false]
      by_cases hx : ∃ j, j < 6 ∧ isWC A j = true
      · obtain ⟨j, hj, wj⟩ := hx
        rw [pk_one wj 6 0 (by omega) (by omega) (fun i _ hi => isW_ex (Or.inl hj) (Or.inl (by omega)) wj (by omega)), kdL_one (by rw [we]; exact wj) 6 0 _ (by omega) (by omega) (fun i _ hi hne => by rw [we]; exact isW_ex (Or.inl hj) (Or.inl (by omega)) wj (Ne.symm hne)), if_neg (nI_pos (by omega))]
        exact I_one hn hj h wj
      · have hf : ∀ j, j < 6 → isWC A j = false := fun j hj => by
          cases q : isWC A j with
          | false => rfl
          | true => exact absurd ⟨j, hj, q⟩ hx
        rw [pk_none 6 0 (fun j _ hj => hf j (by omega)), kdL_none 6 0 _ (fun j _ hj => by rw [we]; exact hf j (by omega)), if_pos (by decide), we, h10, cond_false]
        right
        refine ⟨rfl, ?_⟩
        unfold rTo
        rw [we, h13]
        exact Wr_itm (Wr_num (Wr_f (TK_plc h.1)))
theorem rvL_w {B : ex_M} {p : Int32} (h : Wr p B) : ∀ m, rvL m B = B
  | 0 => rfl
  | m + 1 => by rw [rvL, h.1, show decide ((1 : Int32) = 0) = false by decide, Bool.false_and, cond_false]
theorem m1_neg : ∀ p, p ≤ 120 → -1 - nI p < 0 := by decide +kernel
theorem RI_fr {A A2 B B2 : ex_M} {n : Nat} (h : RI A B n) (e : A2.1 1 = A.1 1) (f : FrT B B2) : RI A2 B2 n := by
  unfold RI
  rw [f.2.1 9 (by omega), f.2.1 10 (by omega), f.2.1 11 (by omega), f.1, f.2.2, e]
  exact h
theorem Q_riv : ∀ (m m2 n : Nat) (A B : ex_M), TS A B n → RS n B → 2 * n ≤ ps B → 120 ≤ ps B + m → 121 ≤ ps B + m2 → ∀ (z : Int32 × ex_M) (K : ex_M), z = pL m (n + 1) A → K = rvL m2 (rdI B) →
    (∃ n', z.1 = nI n' ∧ n' ≤ 120 ∧ (mstR K (decide (K.1 14 6 = 0))).1 14 8 = 0 ∧ (mstR K (decide (K.1 14 6 = 0))).1 14 9 = nI n' ∧ (∃ np ne, RA (z.2.1 1) (rp (apI ((mstR K (decide (K.1 14 6 = 0))).1 16)) n' 0 ((mstR K (decide (K.1 14 6 = 0))).1 10)) np ne) ∧ okL ((mstR K (decide (K.1 14 6 = 0))).1 16) n' 0 ((mstR K (decide (K.1 14 6 = 0))).1 10)) ∨
    (z.1 = -1 - (mstR K (decide (K.1 14 6 = 0))).1 14 4 ∧ z.1 < 0 ∧ (mstR K (decide (K.1 14 6 = 0))).1 14 8 = 1) := by
  intro m
  induction m with
  | zero =>
    intro m2 n A B h rs h2 hm hm2 z K hz hK
    have hps := ps_le rs.1
    obtain ⟨l, p, e, hl, ha, hB, hy, p1, p2, e1, e2, hpe, he, hk⟩ := id h.1
    have ep : ps B = p := by unfold ps; rw [p2]; exact nI_clamp (by omega)
    have t0 : A.1 3 4 = 0 := by
      rcases hk with ⟨q1, -⟩ | ⟨-, -, q⟩ | ⟨-, -, -, -, q⟩ | ⟨-, -, q, -⟩ | ⟨-, -, q, -⟩
      · exact q1
      · omega
      · omega
      · omega
      · omega
    have wf : ∀ w, isWC A w = false := fun w => by unfold isWC; rw [t0, show decide ((0 : Int32) = 1) = false by decide, Bool.false_and]
    have hi : P_item A = (false, A) := by
      unfold P_item
      rw [tkW_f (wf 13)]
      show (bif isWC A 10 then P_event A else pk A 6 0) = (false, A)
      rw [wf 10, cond_false, pk_none 6 0 (fun j _ _ => wf j)]
    rcases I_item (by omega) h with ⟨q, -⟩ | ⟨-, q⟩
    · rw [hi] at q; cases q
    · rw [hi] at q
      right
      rw [rvL_w q] at hK
      rw [hK, hz, pL]
      have w := Wr_mst (b := decide ((rdI B).1 14 6 = 0)) q
      refine ⟨by rw [w.2], ?_, w.1⟩
      show -1 - A.1 3 5 < 0
      rw [p1]; exact m1_neg p (by omega)
  | succ m ih =>
    intro m2 n A B h rs h2 hm hm2 z K hz hK
    have hps := ps_le rs.1
    have hn : n < 120 := by omega
    have la := Lat_rdI hn rs
    rw [pL] at hz
    rcases I_item hn h with ⟨q1, q2⟩ | ⟨q1, q2⟩
    · rw [q1, cond_true] at hz
      have rs1 := la.1
      have p8 := la.2 q2.2.1
      generalize (P_item A).2 = A1 at hz q2
      generalize rdI B = B1 at hK q2 rs1 p8
      have hps1 := ps_le rs1.1
      obtain ⟨l, p, e, hl, ha, hB, hy, p1, p2, e1, e2, hpe, he, hk⟩ := id q2.1
      have ep : ps B1 = p := by unfold ps; rw [p2]; exact nI_clamp (by omega)
      obtain ⟨m3, rfl⟩ : ∃ m3, m2 = m3 + 1 := ⟨m2 - 1, by omega⟩
      rw [rvL, decide_eq_true q2.2.1, Bool.true_and, ep] at hK
      have fail : ∀ t : Int32, A1.1 3 4 = t → ¬ t = 0 → ¬ t = 3 → ¬ B1.1 14 6 = 0 → (decide (B1.1 14 6 = 3) && decide (B1.1 15 p = 59)) = false → (z.1 = -1 - (mstR K (decide (K.1 14 6 = 0))).1 14 4 ∧ z.1 < 0 ∧ (mstR K (decide (K.1 14 6 = 0))).1 14 8 = 1) := fun t ht n0 n3 s0 sc => by
        rw [sc, cond_false] at hK
        rw [ht, if_neg n0, if_neg n3] at hz
        rw [hK, hz, decide_eq_false s0]
        refine ⟨?_, ?_, rfl⟩
        · show -1 - A1.1 3 5 = -1 - (mJ B1 14 8 1).1 14 4
          rw [p1]
          show -1 - nI p = -1 - B1.1 14 4
          rw [p2]
        · show -1 - A1.1 3 5 < 0
          rw [p1]; exact m1_neg p (by omega)
      rcases hk with ⟨t1, t2⟩ | ⟨t1, t2, t3⟩ | ⟨t1, t2, t3, t4, t5⟩ | ⟨t1, t2, t3, t4⟩ | ⟨t1, t2, t3, t4⟩
      · left
        rw [t2, show decide ((0 : Int32) = 3) = false by decide, Bool.false_and, cond_false] at hK
        rw [t1, if_pos rfl] at hz
        rw [hK, hz, t2, decide_eq_true rfl, mst_t q2.2.1]
        have ft : FrT B1 (nxt B1) := FrT_nxt
        have ri := RI_fr (A2 := A1) q2.2.2 rfl ft
        exact ⟨n + 1, rfl, by omega, nxt_8 q2.2.1, ri.1, ri.2.2.2.1, ri.2.2.2.2⟩
      · exact Or.inr (fail 1 t1 (by decide) (by decide) (by rw [t2]; decide) (by rw [t2]; rfl))
      · exact Or.inr (fail 2 t1 (by decide) (by decide) (by rw [t2]; decide) (by rw [t2]; rfl))
      · rw [t2, decide_eq_true rfl, decide_eq_true t4, Bool.and_self, cond_true, mst_t q2.2.1] at hK
        rw [t1, if_neg (by decide), if_pos rfl] at hz
        have pn := (ps_nxt rs1.1).2 (by rw [t2]; decide)
        exact ih m3 (n + 1) (stp A1) (nxt B1) ⟨TK_stp q2.1, nxt_8 q2.2.1, RI_fr q2.2.2 (stp_1 _ (by decide)) FrT_nxt⟩ (RS_nxt rs1) (by omega) (by omega) (by omega) z K hz hK
      · exact Or.inr (fail 4 t1 (by decide) (by decide) (by rw [t2]; decide) (by rw [t2, decide_eq_false t4, Bool.and_false]))
    · right
      rw [q1, cond_false] at hz
      rw [rvL_w q2] at hK
      have w := Wr_mst (b := decide ((rdI B).1 14 6 = 0)) q2
      have k1 := la.1.1
      rw [hK, hz]
      refine ⟨by rw [w.2], ?_, w.1⟩
      show -1 - (P_item A).2.1 3 5 < 0
      rw [← q2.2, psE k1]
      exact m1_neg _ (ps_le k1)
/-! what the reading leaves as it was -/
def FrC (M A : ex_M) : Prop := (∀ q, q ≠ 1 → q ≠ 3 → A.1 q = M.1 q) ∧ (∀ k, k < 4 → A.1 3 k = M.1 3 k) ∧ A.2 = M.2
section FrCs
variable {M A : ex_M}
theorem FrC_stp (h : FrC M A) : FrC M (stp A) := ⟨fun q h1 h3 => (stp_1 A h3).trans (h.1 q h1 h3), fun k hk => (stC_k A _ _ (by omega)).trans (h.2.1 k hk), (stC_2 A _ _).trans h.2.2⟩
theorem FrC_38 {v : Int32} (h : FrC M A) : FrC M (mJ A 3 8 v) := by
  refine ⟨fun q h1 h3 => ?_, fun k hk => ?_, h.2.2⟩
  · rw [← h.1 q h1 h3]; simp only [mJ]; exact wr_n h3
  · rw [← h.2.1 k hk]; simp only [mJ, wr_s]; exact ud_n (by omega)
theorem FrC_1 {a : Nat → Int32} (h : FrC M A) : FrC M (mI A 1 a) := ⟨fun q h1 h3 => (mI_n h1).trans (h.1 q h1 h3), h.2.1, h.2.2⟩
theorem FrC_tkW {w : Nat} (h : FrC M A) : FrC M (tkW A w).2 := by
  unfold tkW
  cases isWC A w with
  | true => exact FrC_stp h
  | false => exact h
theorem FrC_tkN {mx : Int32} (h : FrC M A) : FrC M (tkN A mx).2 := by
  unfold tkN
  cases (decide (A.1 3 4 = 2) && decide (A.1 3 7 ≤ mx)) with
  | true => exact FrC_stp (FrC_38 h)
  | false => exact h
theorem FrC_toll (h : FrC M A) : FrC M (P_toll A).2 := by
  unfold P_toll
  cases (tkN A 99).1 with
  | true => exact FrC_1 (FrC_tkN h)
  | false => exact FrC_tkN h
theorem FrC_event (h : FrC M A) : FrC M (P_event A).2 := by
  unfold P_event
  cases (!decide (A.1 1 2 < 8)) with
  | true => exact h
  | false =>
    rw [cond_false]
    have k0 : FrC M (tkN (stp A) 9999).2 := FrC_tkN (FrC_stp h)
    unfold pe0
    generalize (tkN (stp A) 9999) = z at k0
    cases z.1 with
    | false => exact k0
    | true =>
      rw [cond_true]
      have k1 : FrC M (tkW z.2 11).2 := FrC_tkW k0
      unfold pe1
      generalize (tkW z.2 11) = y at k1
      cases y.1 with
      | false => exact k1
      | true =>
        rw [cond_true]
        unfold pe2 pe3
        have k2 : FrC M (tkN (tkW y.2 12).2 99).2 := FrC_tkN (mx := 99) (FrC_tkW (w := 12) k1)
        generalize (tkN (tkW y.2 12).2 99) = x at k2
        cases x.1 with
        | false => exact k2
        | true => exact FrC_1 k2
theorem FrC_po {w f n : Nat} {mx : Int32} (h : FrC M A) : FrC M (po w mx f n A).2 := by
  unfold po
  cases (tkW A w).1 with
  | false => exact FrC_tkW h
  | true =>
    rw [cond_true]
    cases (tkN (tkW A w).2 mx).1 with
    | false => exact FrC_tkN (FrC_tkW h)
    | true => exact FrC_1 (FrC_tkN (FrC_tkW h))
theorem FrC_one {k : Int32} (h : FrC M A) : FrC M (P_one A k).2 := by
  unfold P_one
  cases (!decide (A.1 1 3 < 8)) with
  | true => exact h
  | false =>
    rw [cond_false]
    have k0 := FrC_po (w := 7) (f := 2) (n := ix (A.1 1 3)) (mx := 9999) (FrC_1 (a := (adO (tkW (stp A) 6).2 k (bif (tkW (stp A) 6).1 then 1 else 0)).1 1) (FrC_tkW (w := 6) (FrC_stp h)))
    have e : mI (tkW (stp A) 6).2 1 ((adO (tkW (stp A) 6).2 k (bif (tkW (stp A) 6).1 then 1 else 0)).1 1) = adO (tkW (stp A) 6).2 k (bif (tkW (stp A) 6).1 then 1 else 0) := by unfold adO; rw [mI_s]
    rw [e] at k0
    unfold po0 po1
    generalize po 7 9999 2 (ix (A.1 1 3)) (adO (tkW (stp A) 6).2 k (bif (tkW (stp A) 6).1 then 1 else 0)) = z at k0
    cases z.1 with
    | false => exact k0
    | true =>
      rw [cond_true]
      have k1 := FrC_po (w := 8) (f := 3) (n := ix (A.1 1 3)) (mx := 23) k0
      unfold po2
      generalize po 8 23 3 (ix (A.1 1 3)) z.2 = y at k1
      cases y.1 with
      | false => exact k1
      | true => exact FrC_po k1
theorem FrC_pk (h : FrC M A) : ∀ m k, FrC M (pk A m k).2
  | 0, _ => h
  | m + 1, k => by
    rw [pk]
    cases isWC A k with
    | true => exact FrC_one h
    | false => exact FrC_pk h m (k + 1)
theorem FrC_item (h : FrC M A) : FrC M (P_item A).2 := by
  unfold P_item
  have k0 := FrC_tkW (w := 13) h
  generalize tkW A 13 = z at k0
  cases z.1 with
  | true => exact FrC_toll k0
  | false =>
    rw [cond_false]
    cases isWC z.2 10 with
    | true => exact FrC_event k0
    | false => exact FrC_pk k0 6 0
end FrCs
theorem FrC_pL {M : ex_M} : ∀ m k A, FrC M A → FrC M (pL m k A).2
  | 0, _, _, h => h
  | m + 1, k, A, h => by
    rw [pL]
    have k0 := FrC_item h
    generalize P_item A = z at k0
    cases z.1 with
    | false => exact k0
    | true =>
      rw [cond_true]
      by_cases h0 : z.2.1 3 4 = 0
      · rw [if_pos h0]; exact k0
      · rw [if_neg h0]
        by_cases h3 : z.2.1 3 4 = 3
        · rw [if_pos h3]; exact FrC_pL m (k + 1) _ (FrC_stp k0)
        · rw [if_neg h3]; exact k0
def FrR (M A : ex_M) : Prop := (∀ q, q ≠ 14 → q ≠ 16 → A.1 q = M.1 q) ∧ (∀ k, k < 4 → A.1 14 k = M.1 14 k) ∧ A.2 = M.2
section FrRs
variable {M A : ex_M}
theorem FrR_nxt (h : FrR M A) : FrR M (nxt A) := ⟨fun q h1 h3 => (nxt_r A h1).trans (h.1 q h1 h3), fun k hk => (nxt_k A (by omega)).trans (h.2.1 k hk), (nxP_2 A).trans h.2.2⟩
theorem FrR_J {j : Nat} {v : Int32} (hj : 4 ≤ j) (h : FrR M A) : FrR M (mJ A 14 j v) := by
  refine ⟨fun q h1 h3 => ?_, fun k hk => ?_, h.2.2⟩
  · rw [← h.1 q h1 h3]; simp only [mJ]; exact wr_n h1
  · rw [← h.2.1 k hk]; simp only [mJ, wr_s]; exact ud_n (by omega)
theorem FrR_mst {b : Bool} (h : FrR M A) : FrR M (mstR A b) := by
  unfold mstR
  cases (b && decide (A.1 14 8 = 0)) with
  | true => exact FrR_nxt h
  | false => exact FrR_J (by omega) h
theorem FrR_num {mx : Int32} (h : FrR M A) : FrR M (numR A mx).2 := FrR_mst h
theorem FrR_isN {w : Nat} (h : FrR M A) : FrR M (isNxR A w).2 := by
  unfold isNxR
  cases (decide (A.1 14 8 = 0) && isWR A w) with
  | true => exact FrR_nxt h
  | false => exact h
theorem FrR_opt {w : Nat} {mx d : Int32} (h : FrR M A) : FrR M (optR A w mx d).2 := by
  unfold optR
  cases (isNxR A w).1 with
  | true => exact FrR_num (FrR_isN h)
  | false => exact FrR_isN h
theorem FrR_16 {a : Nat → Int32} (h : FrR M A) : FrR M (mI A 16 a) := ⟨fun q h1 h3 => (mI_n h3).trans (h.1 q h1 h3), h.2.1, h.2.2⟩
theorem FrR_itm {x a b c d : Int32} (h : FrR M A) : FrR M (itmR A x a b c d) := FrR_J (by omega) (FrR_16 h)
theorem FrR_rdI (h : FrR M A) : FrR M (rdI A) := by
  unfold rdI
  split
  · cases isWR A 10 with
    | true => exact FrR_itm (FrR_num (FrR_isN (FrR_mst (FrR_num (FrR_J (by omega) (FrR_mst h))))))
    | false => exact FrR_itm (FrR_num (FrR_mst h))
  · exact FrR_itm (FrR_opt (FrR_opt (FrR_opt (FrR_isN (FrR_J (by omega) (FrR_mst h))))))
end FrRs
theorem FrR_rvL {M : ex_M} : ∀ m A, FrR M A → FrR M (rvL m A)
  | 0, _, h => h
  | m + 1, A, h => by
    rw [rvL]
    cases (decide (A.1 14 8 = 0) && (decide (A.1 14 6 = 3) && decide (A.1 15 (ps A) = 59))) with
    | true => exact FrR_rvL m _ (FrR_rdI (FrR_mst h))
    | false => exact h
