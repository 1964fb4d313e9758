/-! the text, on both sides: tokens -/
theorem run_ext {q : Int32 → Bool} {t u : Nat → Int32} : ∀ m p, (∀ j, j < p + m → u j = t j) → run q u m p = run q t m p
  | 0, _, _ => rfl
  | m + 1, p, h => by rw [run, run, h p (by omega), run_ext m (p + 1) (fun j hj => h j (by omega))]
theorem dig_ext {t u : Nat → Int32} : ∀ m p v, (∀ j, j < p + m → u j = t j) → dig u m p v = dig t m p v
  | 0, _, _, _ => rfl
  | m + 1, p, v, h => by rw [dig, dig, h p (by omega), dig_ext m (p + 1) _ (fun j hj => h j (by omega))]
theorem mn4_rg {n : Nat} (h : n < 2 ^ 31) : ∃ j, j ≤ 10000 ∧ mn4 (nI n) = nI j := by
  unfold mn4
  rw [show (10000 : Int32) = nI 10000 from rfl]
  by_cases hn : 10000 < n
  · rw [if_pos (nI_lt hn h)]; exact ⟨10000, by omega, rfl⟩
  · rw [if_neg (nI_nlt (by omega) (by omega))]; exact ⟨n, by omega, rfl⟩
theorem dig_pos {t : Nat → Int32} : ∀ m p x, x ≤ 10000 → ∃ j, j ≤ 10000 ∧ (dig t m p (nI x)).2 = nI j
  | 0, _, x, h => ⟨x, h, rfl⟩
  | m + 1, p, x, h => by
    rw [dig]
    cases hd : dgt (t p) with
    | false => exact ⟨x, h, rfl⟩
    | true =>
      rw [cond_true]
      have ho : out (t p) 48 57 = false := by unfold dgt at hd; simpa using hd
      obtain ⟨h1, h2⟩ := out_rg ho
      have h0 : (0 : Int32) ≤ t p := by rw [Int32.le_iff_toInt_le] at h1 ⊢; rw [show (48 : Int32).toInt = 48 from rfl] at h1; rw [show (0 : Int32).toInt = 0 from rfl]; omega
      obtain ⟨y, hy, ey⟩ := rg_nat (n := 57) rfl (by omega) h0 h2
      have hy2 : 48 ≤ y := by rw [ey, show (48 : Int32) = nI 48 from rfl] at h1; exact (nI_leI (by omega) (by omega)).mp h1
      rw [ey, show (10 : Int32) = nI 10 from rfl, pk_mul, nI_add, show (48 : Int32) = nI 48 from rfl, pk_sub (by omega)]
      obtain ⟨j, hj, ej⟩ := mn4_rg (n := 10 * x + y - 48) (by omega)
      rw [ej]
      exact dig_pos m (p + 1) j hj
/-- the token at hand, on both sides -/
def TK (A B : ex_M) : Prop := ∃ l p e, l ≤ 120 ∧ A.1 3 3 = nI l ∧ B.1 14 3 = nI l ∧ (∀ j, j < l → B.1 15 j = A.1 4 j) ∧ A.1 3 5 = nI p ∧ B.1 14 4 = nI p ∧ A.1 3 6 = nI e ∧ B.1 14 5 = nI e ∧ p ≤ e ∧ e ≤ l ∧
  ((A.1 3 4 = 0 ∧ B.1 14 6 = 0) ∨ (A.1 3 4 = 1 ∧ B.1 14 6 = 1 ∧ p < e) ∨ (A.1 3 4 = 2 ∧ B.1 14 6 = 2 ∧ B.1 14 7 = A.1 3 7 ∧ 0 ≤ A.1 3 7 ∧ p < e) ∨ (A.1 3 4 = 3 ∧ B.1 14 6 = 3 ∧ p < e ∧ B.1 15 p = 59) ∨ (A.1 3 4 = 4 ∧ B.1 14 6 = 3 ∧ p < e ∧ ¬ B.1 15 p = 59))
theorem TK_stC {A B : ex_M} {l b : Nat} (hl : l ≤ 120) (hb : b ≤ l) (ha : A.1 3 3 = nI l) (hB : B.1 14 3 = nI l) (hy : ∀ j, j < l → B.1 15 j = A.1 4 j) : TK (stC A l b) (nxC B l b) := by
  have h1 := run_le (q := spc) (t := A.1 4) (l - b) b
  unfold stC nxC
  rw [run_ext (t := A.1 4) (u := B.1 15) (l - b) b (fun j hj => hy j (by omega))]
  generalize run spc (A.1 4) (l - b) b = p at h1
  unfold tkP nxP
  by_cases hlp : l ≤ p
  · rw [if_pos hlp, if_pos hlp]
    exact ⟨l, p, p, hl, ha, hB, hy, rfl, rfl, rfl, rfl, Nat.le_refl _, by omega, Or.inl ⟨rfl, rfl⟩⟩
  · rw [if_neg hlp, if_neg hlp, hy p (by omega)]
    cases hz : ltr (A.1 4 p) with
    | true =>
      rw [cond_true, cond_true, run_ext (t := A.1 4) (u := B.1 15) (l - p) p (fun j hj => hy j (by omega))]
      have h2 := run_le (q := ltr) (t := A.1 4) (l - p) p
      have h3 := run_lt (m := l - p) (by omega) hz
      exact ⟨l, p, _, hl, ha, hB, hy, rfl, rfl, rfl, rfl, h2.1, by omega, Or.inr (Or.inl ⟨rfl, rfl, h3⟩)⟩
    | false =>
      rw [cond_false, cond_false]
      cases hz2 : dgt (A.1 4 p) with
      | true =>
        rw [cond_true, cond_true, dig_ext (t := A.1 4) (u := B.1 15) (l - p) p 0 (fun j hj => hy j (by omega))]
        have h2 := dig_le (t := A.1 4) (l - p) p 0
        have h3 := dig_lt (v := 0) (m := l - p) (by omega) hz2
        obtain ⟨j, hj, ej⟩ := dig_pos (t := A.1 4) (l - p) p 0 (by omega)
        have e0 : 0 ≤ (dig (A.1 4) (l - p) p 0).2 := by
          rw [show (0 : Int32) = nI 0 from rfl, ej]; exact nI_le (by omega) (by omega)
        exact ⟨l, p, _, hl, ha, hB, hy, rfl, rfl, rfl, rfl, h2.1, by omega, Or.inr (Or.inr (Or.inl ⟨rfl, rfl, rfl, e0, h3⟩))⟩
      | false =>
        rw [cond_false, cond_false]
        refine ⟨l, p, p + 1, hl, ha, hB, hy, rfl, rfl, rfl, rfl, by omega, by omega, ?_⟩
        by_cases h59 : A.1 4 p = 59
        · rw [if_pos h59]
          exact Or.inr (Or.inr (Or.inr (Or.inl ⟨rfl, rfl, by omega, (hy p (by omega)).trans h59⟩)))
        · rw [if_neg h59]
          exact Or.inr (Or.inr (Or.inr (Or.inr ⟨rfl, rfl, by omega, fun z => h59 ((hy p (by omega)).symm.trans z)⟩)))
theorem TK_stp {A B : ex_M} (h : TK A B) : TK (stp A) (nxt B) := by
  obtain ⟨l, p, e, hl, ha, hB, hy, -, -, e1, e2, -, he, -⟩ := h
  unfold stp nxt
  rw [ha, hB, e1, e2, show ix (nI l) = l from nI_clamp (by omega), show ix (nI e) = e from nI_clamp (by omega)]
  exact TK_stC hl he ha hB hy
theorem TK_8 {A B : ex_M} {v : Int32} (h : TK A B) : TK (mJ A 3 8 v) B := h
theorem TK_1 {A B : ex_M} {a : Nat → Int32} (h : TK A B) : TK (mI A 1 a) B := h
theorem TK_inc {A B : ex_M} {j : Nat} (hj : 7 < j) (h : TK A B) : TK A (inc B j) := by
  obtain ⟨l, p, e, h1⟩ := h
  refine ⟨l, p, e, ?_⟩
  have q : ∀ k, k < 8 → (inc B j).1 14 k = B.1 14 k := fun k hk => by simp only [inc, mJ, wr_s]; exact ud_n (by omega)
  have q15 : (inc B j).1 15 = B.1 15 := rfl
  rw [q 3 (by omega), q 4 (by omega), q 5 (by omega), q 6 (by omega), q 7 (by omega), q15]
  exact h1
theorem wdM_ext {t u : Nat → Int32} {p w : Nat} : ∀ m k, (∀ j, j < p + (k + m) → u j = t j) → wdM u p w m k = wdM t p w m k
  | 0, _, _ => rfl
  | m + 1, k, h => by rw [wdM, wdM, h (p + k) (by omega), wdM_ext m (k + 1) (fun j hj => h j (by omega))]
theorem isW_eq {A B : ex_M} {w : Nat} (h : TK A B) : isWR B w = isWC A w := by
  obtain ⟨l, p, e, hl, ha, hB, hy, p1, p2, e1, e2, hpe, he, hk⟩ := h
  unfold isWR isWC
  have c : decide (B.1 14 6 = 1) = decide (A.1 3 4 = 1) := by
    rcases hk with ⟨q1, q2⟩ | ⟨q1, q2, -⟩ | ⟨q1, q2, -⟩ | ⟨q1, q2, -⟩ | ⟨q1, q2, -⟩ <;> rw [q1, q2] <;> decide
  rw [c, p1, p2, e1, e2, show ix (nI p) = p from nI_clamp (by omega), show ix (nI e) = e from nI_clamp (by omega)]
  by_cases hw : e - p = wln w
  · rw [wdM_ext (t := A.1 4) (u := B.1 15) (wln w) 0 (fun j hj => hy j (by omega))]
  · rw [decide_eq_false hw, Bool.false_and, Bool.false_and]
/-- something was wrong, at the place p -/
def Wr (p : Int32) (B : ex_M) : Prop := B.1 14 8 = 1 ∧ B.1 14 4 = p
section Wrs
variable {p : Int32} {B : ex_M}
theorem Wr_mst {b : Bool} (h : Wr p B) : Wr p (mstR B b) := by
  unfold mstR
  rw [h.1, show decide ((1 : Int32) = 0) = false by decide, Bool.and_false, cond_false]
  exact ⟨rfl, h.2⟩
theorem Wr_num {mx : Int32} (h : Wr p B) : Wr p (numR B mx).2 := Wr_mst h
theorem Wr_isN {w : Nat} (h : Wr p B) : isNxR B w = (false, B) := by
  unfold isNxR
  rw [h.1, show decide ((1 : Int32) = 0) = false by decide, Bool.false_and, cond_false]
theorem Wr_isN2 {w : Nat} (h : Wr p B) : Wr p (isNxR B w).2 := by rw [Wr_isN h]; exact h
theorem Wr_opt {w : Nat} {mx d : Int32} (h : Wr p B) : Wr p (optR B w mx d).2 := by
  unfold optR
  rw [Wr_isN h]
  exact h
theorem Wr_itm {x a b c d : Int32} (h : Wr p B) : Wr p (itmR B x a b c d) := h
theorem Wr_inc {j : Nat} (hj : j ≠ 8) (hj2 : j ≠ 4) (h : Wr p B) : Wr p (inc B j) := by
  refine ⟨?_, ?_⟩
  · simp only [inc, mJ, wr_s]; rw [ud_n (Ne.symm hj)]; exact h.1
  · simp only [inc, mJ, wr_s]; rw [ud_n (Ne.symm hj2)]; exact h.2
theorem Wr_1D {k b pu go : Int32} (h : Wr p B) : Wr p (r1D k b pu go B) := Wr_itm (Wr_opt h)
theorem Wr_1C {k b pu : Int32} (h : Wr p B) : Wr p (r1C k b pu B) := Wr_1D (Wr_opt h)
theorem Wr_1B {k b : Int32} (h : Wr p B) : Wr p (r1B k b B) := Wr_1C (Wr_opt h)
theorem Wr_1A {k : Int32} (h : Wr p B) : Wr p (r1A k B) := Wr_1B (Wr_isN2 h)
theorem Wr_re3 {z : Int32 × ex_M} (h : Wr p z.2) : Wr p (re3 z) := Wr_itm (Wr_num (Wr_isN2 (Wr_mst h)))
theorem mst_t (h : B.1 14 8 = 0) : mstR B true = nxt B := by unfold mstR; rw [decide_eq_true h]; rfl
theorem mst_f : mstR B false = mJ B 14 8 1 := rfl
theorem Wr_f {q : Int32} (h : B.1 14 4 = q) : Wr q (mstR B false) := ⟨rfl, h⟩
end Wrs
theorem nxt_8 {B : ex_M} (h : B.1 14 8 = 0) : (nxt B).1 14 8 = 0 := by rw [nxt_k B (by omega)]; exact h
/-- a word taken, on both sides -/
theorem TK_tkW {A B : ex_M} {w : Nat} (h : TK A B) (h8 : B.1 14 8 = 0) : (isNxR B w).1 = (tkW A w).1 ∧ TK (tkW A w).2 (isNxR B w).2 ∧ (isNxR B w).2.1 14 8 = 0 := by
  unfold isNxR tkW
  rw [decide_eq_true h8, Bool.true_and, isW_eq h]
  cases isWC A w with
  | true => exact ⟨rfl, TK_stp h, nxt_8 h8⟩
  | false => exact ⟨rfl, h, h8⟩
theorem TK_plc {A B : ex_M} (h : TK A B) : B.1 14 4 = A.1 3 5 := by
  obtain ⟨l, p, e, hl, ha, hB, hy, p1, p2, -⟩ := h
  rw [p1, p2]
theorem stC_k (M : ex_M) (l b : Nat) {k : Nat} (hk : k < 4 ∨ 7 < k) : (stC M l b).1 3 k = M.1 3 k := by
  have key : ∀ a b c d, (mT M a b c d).1 3 k = M.1 3 k := fun a b c d => by
    simp only [mT, mI, wr_s, st4]
    rw [if_neg (by omega), if_neg (by omega), if_neg (by omega), if_neg (by omega)]
  rw [stC, tkP]
  generalize run spc (M.1 4) (l - b) b = p
  by_cases hlp : l ≤ p
  · rw [if_pos hlp]; exact key _ _ _ _
  · rw [if_neg hlp]
    cases ltr (M.1 4 p) with
    | true => exact key _ _ _ _
    | false =>
      cases dgt (M.1 4 p) with
      | true => exact key _ _ _ _
      | false => exact key _ _ _ _
theorem stC_2 (M : ex_M) (l b : Nat) : (stC M l b).2 = M.2 := by
  rw [stC, tkP]
  generalize run spc (M.1 4) (l - b) b = p
  by_cases hlp : l ≤ p
  · rw [if_pos hlp]; rfl
  · rw [if_neg hlp]
    cases ltr (M.1 4 p) with
    | true => rfl
    | false =>
      cases dgt (M.1 4 p) with
      | true => rfl
      | false => rfl
theorem stp_8 (M : ex_M) {v : Int32} : (stp (mJ M 3 8 v)).1 3 8 = v := by
  unfold stp
  rw [stC_k _ _ _ (by omega)]; rfl
/-- a number taken, on both sides -/
theorem TK_tkN {A B : ex_M} {mx : Int32} (h : TK A B) (h8 : B.1 14 8 = 0) : ((tkN A mx).1 = true ∧ TK (tkN A mx).2 (numR B mx).2 ∧ (numR B mx).2.1 14 8 = 0 ∧ (tkN A mx).2.1 3 8 = (numR B mx).1 ∧ 0 ≤ (numR B mx).1 ∧ (numR B mx).1 ≤ mx ∧ (numR B mx).2 = nxt B) ∨ ((tkN A mx).1 = false ∧ Wr ((tkN A mx).2.1 3 5) (numR B mx).2) := by
  have hp := TK_plc h
  unfold tkN numR
  have c : (decide (B.1 14 6 = 2) && !out (B.1 14 7) 0 mx) = (decide (A.1 3 4 = 2) && decide (A.1 3 7 ≤ mx)) := by
    obtain ⟨l, p, e, hl, ha, hB, hy, p1, p2, e1, e2, hpe, he, hk⟩ := h
    rcases hk with ⟨q1, q2⟩ | ⟨q1, q2, -⟩ | ⟨q1, q2, q3, q4, -⟩ | ⟨q1, q2, -⟩ | ⟨q1, q2, -⟩
    · rw [q1, q2, show decide ((0 : Int32) = 2) = false by decide, Bool.false_and, Bool.false_and]
    · rw [q1, q2, show decide ((1 : Int32) = 2) = false by decide, Bool.false_and, Bool.false_and]
    · rw [q1, q2, q3, decide_eq_true rfl, Bool.true_and, Bool.true_and]
      unfold out
      rw [decide_eq_false (Int32.not_lt.mpr q4), Bool.false_or]
      by_cases hm : A.1 3 7 ≤ mx
      · rw [decide_eq_true hm, decide_eq_false (Int32.not_lt.mpr hm)]; rfl
      · rw [decide_eq_false hm, decide_eq_true (Int32.not_le.mp hm)]; rfl
    · rw [q1, q2, show decide ((3 : Int32) = 2) = false by decide, Bool.false_and, Bool.false_and]
    · rw [q1, q2, show decide ((4 : Int32) = 2) = false by decide, show decide ((3 : Int32) = 2) = false by decide, Bool.false_and, Bool.false_and]
  cases hc : (decide (A.1 3 4 = 2) && decide (A.1 3 7 ≤ mx)) with
  | true =>
    left
    rw [hc] at c
    simp only [c, mst_t h8]
    rw [Bool.and_eq_true] at hc
    have t2 := of_decide_eq_true hc.1
    have hm := of_decide_eq_true hc.2
    have hv : B.1 14 7 = A.1 3 7 ∧ 0 ≤ A.1 3 7 := by
      obtain ⟨l, p, e, hl, ha, hB, hy, p1, p2, e1, e2, hpe, he, hk⟩ := h
      rcases hk with ⟨q1, q2⟩ | ⟨q1, q2, -⟩ | ⟨q1, q2, q3, q4, -⟩ | ⟨q1, q2, -⟩ | ⟨q1, q2, -⟩
      · rw [q1] at t2; exact absurd t2 (by decide)
      · rw [q1] at t2; exact absurd t2 (by decide)
      · exact ⟨q3, q4⟩
      · rw [q1] at t2; exact absurd t2 (by decide)
      · rw [q1] at t2; exact absurd t2 (by decide)
    refine ⟨rfl, TK_stp (TK_8 h), nxt_8 h8, ?_, by rw [hv.1]; exact hv.2, by rw [hv.1]; exact hm, trivial⟩
    rw [cond_true, hv.1]
    show (stp (mJ A 3 8 (A.1 3 7))).1 3 8 = A.1 3 7
    exact stp_8 _
  | false =>
    right
    rw [hc] at c
    rw [c]
    exact ⟨rfl, Wr_f hp⟩
