section EvLdcW
variable {G : ex_G} {C : ex_C} {Y : ex_Y} {R0 : Room} {pc cl sl : Nat} {L : List (Option Value)} {S : List Value} {es : List va_E}
theorem ev_ldcwS {idx i : Nat} {tx : String} (hk : (Y.1.cls, idx, tx, i) ∈ ck_refs) (hC : Cx G C Y R0) (hd : decode Y.2.1 pc = .ok (.ldc_w idx, 3)) (k : Ev G C Y (pc + 3) L (.ref (ex_sK G i) :: S) cl sl es) : Ev G C Y pc L (S) cl sl es := by
  obtain ⟨p, e, R, s, m, args, below, meth, c, Q⟩ := C
  intro H locs ls hl hw hS T hT X
  have hZ := hC.2.2.2.2.2.2.2.2.2.2 _ hk
  obtain ⟨t, a1, b1⟩ := k H locs ls hl hw hS T hT X
  exact ⟨t, X.ldcStringW hC.1 hC.2.2.2.1 (text := tx) (a := ex_sK G i) hZ.1 hZ.2 (g := F0 m pc ls S) rfl (by rw [hC.2.1]; exact hd) t a1, b1⟩
end EvLdcW
/-! the reference's items -/
def optR (M : ex_M) (w : Nat) (mx d : Int32) : Int32 × ex_M := bif (isNxR M w).1 then numR (isNxR M w).2 mx else (d, (isNxR M w).2)
def r1D (k b pu go : Int32) (M : ex_M) : ex_M := itmR (optR M 9 23 (-1)).2 k b pu go (optR M 9 23 (-1)).1
def r1C (k b pu : Int32) (M : ex_M) : ex_M := r1D k b pu (optR M 8 23 (-1)).1 (optR M 8 23 (-1)).2
def r1B (k b : Int32) (M : ex_M) : ex_M := r1C k b (optR M 7 9999 50).1 (optR M 7 9999 50).2
def r1A (k : Int32) (M : ex_M) : ex_M := r1B k (bif (isNxR M 6).1 then 1 else 0) (isNxR M 6).2
def inc (M : ex_M) (j : Nat) : ex_M := mJ M 14 j (M.1 14 j + 1)
def rOne (M : ex_M) (k : Int32) : ex_M := r1A k (inc (mstR M (decide (M.1 14 10 < 8))) 10)
def re5 (h : Int32) (le : Bool) (x : Int32 × ex_M) : ex_M := itmR x.2 10 h (bif le then -x.1 else x.1) 0 0
def re4 (h : Int32) (y : Bool × ex_M) : ex_M := re5 h y.1 (numR y.2 99)
def re3 (z : Int32 × ex_M) : ex_M := re4 z.1 (isNxR (mstR z.2 (isWR z.2 11)) 12)
def rEv (M : ex_M) : ex_M := re3 (numR (inc (mstR M (decide (M.1 14 11 < 8))) 11) 9999)
def rTo (M : ex_M) : ex_M := itmR (numR (mstR M (isWR M 13)) 99).2 11 (numR (mstR M (isWR M 13)) 99).1 0 0 0
def rdI (M : ex_M) : ex_M := if kdL M 6 0 (-1) < 0 then (bif isWR M 10 then rEv M else rTo M) else rOne M (kdL M 6 0 (-1))
theorem ge8_f {x : Int32} (h : 8 ≤ x) : decide (x < 8) = false := decide_eq_false (Int32.not_lt.mpr h)
theorem ge8_t {x : Int32} (h : ¬ 8 ≤ x) : decide (x < 8) = true := decide_eq_true (Int32.not_le.mp h)
/-- later in the text -/
def Lat (n : Nat) (M N : ex_M) : Prop := RS n N ∧ ps M ≤ ps N ∧ (N.1 14 8 = 0 → M.1 14 8 = 0)
theorem Lat.rf {n : Nat} {M : ex_M} (h : RS n M) : Lat n M M := ⟨h, Nat.le_refl _, id⟩
theorem Lat.tr {n : Nat} {M N K : ex_M} (h : Lat n M N) (k : Lat n N K) : Lat n M K := ⟨k.1, Nat.le_trans h.2.1 k.2.1, fun z => h.2.2 (k.2.2 z)⟩
theorem Lat_nxt {n : Nat} {M : ex_M} (h : RS n M) : Lat n M (nxt M) := ⟨RS_nxt h, (ps_nxt h.1).1, fun z => by rw [nxt_k M (by omega)] at z; exact z⟩
theorem Lat_8 {n : Nat} {M : ex_M} (h : RS n M) : Lat n M (mJ M 14 8 1) := ⟨RS_8 h, Nat.le_refl _, fun z => absurd (show (1 : Int32) = 0 from z) (by decide)⟩
theorem Lat_mst {n : Nat} {M : ex_M} {b : Bool} (h : RS n M) : Lat n M (mstR M b) := by
  unfold mstR
  cases (b && decide (M.1 14 8 = 0)) with
  | true => exact Lat_nxt h
  | false => exact Lat_8 h
theorem Lat_num {n : Nat} {M : ex_M} {mx : Int32} (h : RS n M) : Lat n M (numR M mx).2 := Lat_mst h
theorem Lat_isN {n : Nat} {M : ex_M} {w : Nat} (h : RS n M) : Lat n M (isNxR M w).2 := by
  unfold isNxR
  cases (decide (M.1 14 8 = 0) && isWR M w) with
  | true => exact Lat_nxt h
  | false => exact Lat.rf h
theorem Lat_opt {n : Nat} {M : ex_M} {w : Nat} {mx d : Int32} (h : RS n M) : Lat n M (optR M w mx d).2 := by
  unfold optR
  cases (isNxR M w).1 with
  | true => exact (Lat_isN h).tr (Lat_num (RS_isN h))
  | false => exact Lat_isN h
theorem Lat_inc {n : Nat} {M : ex_M} {j : Nat} (hj : j = 10 ∨ j = 11) (h : RS n M) : Lat n M (inc M j) := by
  rcases hj with e | e <;> subst e <;> exact ⟨⟨h.1, h.2.1, h.2.2⟩, Nat.le_refl _, id⟩
theorem RS_opt {n : Nat} {M : ex_M} {w : Nat} {mx d : Int32} (h : RS n M) : RS n (optR M w mx d).2 := (Lat_opt h).1
theorem mst_8 {M : ex_M} {b : Bool} (h : (mstR M b).1 14 8 = 0) : b = true ∧ M.1 14 8 = 0 ∧ mstR M b = nxt M := by
  unfold mstR at h ⊢
  cases hb : (b && decide (M.1 14 8 = 0)) with
  | true =>
    rw [Bool.and_eq_true] at hb
    exact ⟨hb.1, of_decide_eq_true hb.2, rfl⟩
  | false =>
    rw [hb] at h
    exact absurd (show (1 : Int32) = 0 from h) (by decide)
theorem itm_8 {M : ex_M} {x a b c d : Int32} : (itmR M x a b c d).1 14 8 = M.1 14 8 := rfl
theorem itm_ps {M : ex_M} {x a b c d : Int32} : ps (itmR M x a b c d) = ps M := rfl
theorem RS_itm {n : Nat} {M : ex_M} {x a b c d : Int32} (hn : n < 120) (h : RS n M) : RS (n + 1) (itmR M x a b c d) := by
  refine ⟨h.1, h.2.1, ?_⟩
  show nI (ix (M.1 14 9) + 1) = nI (n + 1)
  rw [h.2.2, show ix (nI n) = n from nI_clamp (by omega)]
theorem Lat_1C {n : Nat} {k b pu : Int32} {M : ex_M} (hn : n < 120) (h : RS n M) : RS (n + 1) (r1C k b pu M) ∧ ps M ≤ ps (r1C k b pu M) ∧ ((r1C k b pu M).1 14 8 = 0 → M.1 14 8 = 0) := by
  have q := (Lat_opt (w := 8) (mx := 23) (d := -1) h).tr (Lat_opt (w := 9) (mx := 23) (d := -1) (RS_opt h))
  exact ⟨RS_itm hn q.1, q.2.1, q.2.2⟩
theorem Lat_1A {n : Nat} {k : Int32} {M : ex_M} (hn : n < 120) (h : RS n M) : RS (n + 1) (r1A k M) ∧ ps M ≤ ps (r1A k M) ∧ ((r1A k M).1 14 8 = 0 → M.1 14 8 = 0) := by
  have q := (Lat_isN (w := 6) h).tr (Lat_opt (w := 7) (mx := 9999) (d := 50) (RS_isN h))
  have q2 := Lat_1C (k := k) (b := bif (isNxR M 6).1 then 1 else 0) (pu := (optR (isNxR M 6).2 7 9999 50).1) hn q.1
  exact ⟨q2.1, Nat.le_trans q.2.1 q2.2.1, fun z => q.2.2 (q2.2.2 z)⟩
theorem isWR_0 {M : ex_M} {w : Nat} (h : isWR M w = true) : ¬ M.1 14 6 = 0 := by
  unfold isWR at h
  rw [Bool.and_eq_true] at h
  rw [of_decide_eq_true h.1]
  decide
theorem kdL_no {M : ex_M} : ∀ m k a, kdL M m k a = a ∨ ∃ j, j < k + m ∧ kdL M m k a = nI j ∧ isWR M j = true
  | 0, _, _ => Or.inl rfl
  | m + 1, k, a => by
    rw [kdL]
    rcases kdL_no (M := M) m (k + 1) (bif isWR M k then nI k else a) with h | ⟨j, h1, h2, h3⟩
    · cases hk : isWR M k with
      | true => rw [hk] at h; exact Or.inr ⟨k, by omega, h, hk⟩
      | false => rw [hk] at h; exact Or.inl h
    · exact Or.inr ⟨j, by omega, h2, h3⟩
theorem kdL_6 {M : ex_M} (h : ¬ kdL M 6 0 (-1) < 0) : ∃ j, j < 6 ∧ kdL M 6 0 (-1) = nI j ∧ isWR M j = true := by
  rcases kdL_no (M := M) 6 0 (-1) with e | ⟨j, h1, h2, h3⟩
  · exact absurd (by rw [e]; decide) h
  · exact ⟨j, by omega, h2, h3⟩
/-- an item: one more, and further on in the text, or wrong -/
theorem Lat_rdI {n : Nat} {M : ex_M} (hn : n < 120) (h : RS n M) : RS (n + 1) (rdI M) ∧ ((rdI M).1 14 8 = 0 → ps M < ps (rdI M)) := by
  unfold rdI
  by_cases hk : kdL M 6 0 (-1) < 0
  · rw [if_pos hk]
    cases hw : isWR M 10 with
    | true =>
      simp only [cond_true]
      have q0 := Lat_mst (b := decide (M.1 14 11 < 8)) h
      have q1 := (Lat_inc (j := 11) (Or.inr rfl) q0.1).tr (Lat_num (mx := 9999) (Lat_inc (j := 11) (Or.inr rfl) q0.1).1)
      unfold rEv
      generalize hz : numR (inc (mstR M (decide (M.1 14 11 < 8))) 11) 9999 = z at q1
      have q2 := q1.tr ((Lat_mst (b := isWR z.2 11) q1.1).tr (Lat_isN (w := 12) (RS_mst q1.1)))
      unfold re3
      generalize hy : isNxR (mstR z.2 (isWR z.2 11)) 12 = y at q2
      have q3 := q2.tr (Lat_num (mx := 99) q2.1)
      refine ⟨RS_itm hn q3.1, fun z8 => ?_⟩
      have e := mst_8 (q3.2.2 z8)
      have e2 := (ps_nxt h.1).2 (isWR_0 hw)
      rw [← e.2.2] at e2
      exact Nat.lt_of_lt_of_le e2 q3.2.1
    | false =>
      simp only [cond_false]
      have q0 := Lat_mst (b := isWR M 13) h
      have q1 := Lat_num (mx := 99) q0.1
      refine ⟨RS_itm hn q1.1, fun z8 => ?_⟩
      have e := mst_8 (q1.2.2 z8)
      have e2 := (ps_nxt h.1).2 (isWR_0 e.1)
      rw [← e.2.2] at e2
      exact Nat.lt_of_lt_of_le e2 q1.2.1
  · rw [if_neg hk]
    obtain ⟨j, hj, ej, wj⟩ := kdL_6 hk
    have q0 := Lat_mst (b := decide (M.1 14 10 < 8)) h
    have q1 := Lat_inc (j := 10) (Or.inl rfl) q0.1
    have q2 := Lat_1A (k := kdL M 6 0 (-1)) hn q1.1
    refine ⟨q2.1, fun z8 => ?_⟩
    have e := mst_8 (q1.2.2 (q2.2.2 z8))
    have e2 := (ps_nxt h.1).2 (isWR_0 wj)
    rw [← e.2.2] at e2
    exact Nat.lt_of_lt_of_le e2 (Nat.le_trans q1.2.1 q2.2.1)
/-! what is told comes to be -/
def apI (it : Nat → Int32) (k : Nat) (a : Nat → Int32) : Nat → Int32 := if it (5 * k) = 10 then upd (eBeg a (ix (a 2)) (it (5 * k + 1)) (it (5 * k + 2))) 2 (nI (ix (a 2) + 1)) else if it (5 * k) = 11 then upd a 1 (it (5 * k + 1)) else upd (oCom a (ix (a 3)) (it (5 * k)) (it (5 * k + 1)) (it (5 * k + 2)) (it (5 * k + 3)) (it (5 * k + 4))) 3 (nI (ix (a 3) + 1))
def soV (it : Nat → Int32) (k : Nat) (a : Nat → Int32) : Int32 := if it (5 * k) = 10 then a 2 else if it (5 * k) = 11 then a 1 else a 3
def okI (it : Nat → Int32) (k : Nat) (a : Nat → Int32) : Prop := (it (5 * k) = 10 → ∃ n, n < 8 ∧ a 2 = nI n) ∧ (it (5 * k) = 11 → 0 ≤ a 1) ∧ (¬ it (5 * k) = 10 → ¬ it (5 * k) = 11 → ∃ n, n < 8 ∧ a 3 = nI n)
def okL (it : Nat → Int32) : Nat → Nat → (Nat → Int32) → Prop
  | 0, _, _ => True
  | m + 1, k, a => okI it k a ∧ okL it m (k + 1) (apI it k a)
theorem soV_0 {it : Nat → Int32} {k : Nat} {a : Nat → Int32} (h : okI it k a) : 0 ≤ soV it k a := by
  unfold soV
  by_cases h1 : it (5 * k) = 10
  · rw [if_pos h1]; obtain ⟨n, hn, e⟩ := h.1 h1; rw [e]; exact nI_pos' (by omega)
  · rw [if_neg h1]
    by_cases h2 : it (5 * k) = 11
    · rw [if_pos h2]; exact h.2.1 h2
    · rw [if_neg h2]; obtain ⟨n, hn, e⟩ := h.2.2 h1 h2; rw [e]; exact nI_pos' (by omega)
def rv0 (M : ex_M) : ex_M := mJ (mJ (mJ (mJ (mJ M 14 5 0) 14 8 0) 14 9 0) 14 10 (M.1 10 3)) 14 11 (M.1 10 2)
def rv1 (M : ex_M) (l : Nat) : ex_M := rdI (nxC (rv0 M) l 0)
def rvL : Nat → ex_M → ex_M
  | 0, M => M
  | m + 1, M => bif decide (M.1 14 8 = 0) && (decide (M.1 14 6 = 3) && decide (M.1 15 (ps M) = 59)) then rvL m (rdI (mstR M true)) else M
def rvE (M : ex_M) (l : Nat) : ex_M := mJ (mstR (rvL 121 (rv1 M l)) (decide ((rvL 121 (rv1 M l)).1 14 6 = 0))) 14 3 0
def R_river (M : ex_M) (l : Nat) : Int32 × ex_M := if (rvE M l).1 14 8 = 0 then ((rvE M l).1 14 9, mI (rvE M l) 10 (rp (apI ((rvE M l).1 16)) (ix ((rvE M l).1 14 9)) 0 ((rvE M l).1 10))) else (-1 - (rvE M l).1 14 4, rvE M l)
theorem RS_rv0 {M : ex_M} {l : Nat} (hl : l ≤ 120) (e : M.1 14 3 = nI l) (hy : ∀ j, j < l → ¬ M.1 15 j < 0) : RS 0 (nxC (rv0 M) l 0) := ⟨RKI_nxC (M := rv0 M) e hl (by omega) hy, Or.inl (nxP_k (rv0 M) (by omega)), nxP_k (rv0 M) (by omega)⟩
theorem RS_rvL : ∀ m n M, RS n M → (M.1 14 8 = 0 → 2 * n ≤ ps M + 1) → ∃ k, k ≤ 120 ∧ (n ≤ 120 → RS k (rvL m M))
  | 0, n, M, h, _ => by
    by_cases hn : n ≤ 120
    · exact ⟨n, hn, fun _ => h⟩
    · exact ⟨0, by omega, fun z => absurd z hn⟩
  | m + 1, n, M, h, h2 => by
    rw [rvL]
    cases hc : (decide (M.1 14 8 = 0) && (decide (M.1 14 6 = 3) && decide (M.1 15 (ps M) = 59))) with
    | false =>
      by_cases hn : n ≤ 120
      · exact ⟨n, hn, fun _ => h⟩
      · exact ⟨0, by omega, fun z => absurd z hn⟩
    | true =>
      rw [Bool.and_eq_true, Bool.and_eq_true] at hc
      have e8 := of_decide_eq_true hc.1
      have e6 := of_decide_eq_true hc.2.1
      have hm : mstR M true = nxt M := by unfold mstR; rw [decide_eq_true e8]; rfl
      have p1 := (ps_nxt h.1).2 (by rw [e6]; decide)
      have p2 := ps_le (RKI_nxt h.1)
      have q := Lat_rdI (n := n) (M := mstR M true) (by have := h2 e8; omega) (RS_mst h)
      obtain ⟨k, hk, z⟩ := RS_rvL m (n + 1) (rdI (mstR M true)) q.1 (fun z8 => by
        have a := q.2 z8
        rw [hm] at a
        have := h2 e8
        rw [hm]
        omega)
      exact ⟨k, hk, fun _ => z (by have := h2 e8; omega)⟩

set_option maxHeartbeats 4000000 in
set_option maxRecDepth 10000 in
theorem rd_100 {G : ex_G} {C : ex_C} {ee : List va_E} {M : ex_M} {n : Nat} {k b pu go : Int32} (hn : n < 120) (h : RS n M) (hC : Cx G C Y_Mod_readItem { frames := 6, cells := 0, slots := 0, locals := 130 }) (hR : Cr G C Y_Mod_readItem 0 0 none ee) (he : ee = ce G (r1D k b pu go M)) : Ev G C Y_Mod_readItem 100 [some (.ref (ex_b G + 71)), some (.int k), some (.int b), some (.int pu), some (.int go)] [] 0 0 (ce G (M)) := by
  refine ev_aload_n rfl hC d_Mod_readItem_100 ?_
  refine ev_iload_n rfl hC d_Mod_readItem_101 ?_
  refine ev_iload_n rfl hC d_Mod_readItem_102 ?_
  refine ev_iload_n rfl hC d_Mod_readItem_103 ?_
  refine ev_iload rfl hC d_Mod_readItem_104 ?_
  refine ev_aload_n rfl hC d_Mod_readItem_106 ?_
  refine ev_ldcwS (i := 9) (tx := "comes") (by decide) hC d_Mod_readItem_107 ?_
  refine cv_Mod1 hC d_Mod_readItem_110 (c_Mod_isNext (w := 9) (by decide) h.1) mi_Mod_isNext ml_Mod_273 im_Mod_isNext se_Mod_isNext rfl ⟨Nat.le_of_ble_eq_true rfl, Nat.le_of_ble_eq_true rfl⟩ ⟨Nat.le_of_ble_eq_true rfl, Nat.le_of_ble_eq_true rfl⟩ rfl rfl (Nat.le_of_ble_eq_true rfl)  ?_
  refine eb_eq 126 hC d_Mod_readItem_113 rfl (fun h_113 => ?_) (fun h_113 => ?_)
  · refine ev_iconst (v := -1) rfl hC d_Mod_readItem_126 ?_
    refine cv_Mod0 hC d_Mod_readItem_127 (c_Mod_item hn (RS_isN h).2.2) mi_Mod_item ml_Mod_284 im_Mod_item se_Mod_item rfl ⟨Nat.le_of_ble_eq_true rfl, Nat.le_of_ble_eq_true rfl⟩ ⟨Nat.le_of_ble_eq_true rfl, Nat.le_of_ble_eq_true rfl⟩ rfl rfl (Nat.le_of_ble_eq_true rfl)  ?_
    refine ev_goto 259 hC d_Mod_readItem_130 rfl ?_
    exact ev_vret hC hR d_Mod_readItem_259 rfl rfl (by rw [he, r1D, optR, h_113]; rfl)
  · refine ev_aload_n rfl hC d_Mod_readItem_116 ?_
    refine ev_iconst (v := 0) rfl hC d_Mod_readItem_117 ?_
    refine ev_bipush (v := 23) rfl hC d_Mod_readItem_118 ?_
    refine cv_Mod1 hC d_Mod_readItem_120 (c_Mod_number (RS_isN h).1) mi_Mod_number ml_Mod_278 im_Mod_number se_Mod_number rfl ⟨Nat.le_of_ble_eq_true rfl, Nat.le_of_ble_eq_true rfl⟩ ⟨Nat.le_of_ble_eq_true rfl, Nat.le_of_ble_eq_true rfl⟩ rfl rfl (Nat.le_of_ble_eq_true rfl)  ?_
    refine ev_goto 127 hC d_Mod_readItem_123 rfl ?_
    refine cv_Mod0 hC d_Mod_readItem_127 (c_Mod_item hn (RS_num (RS_isN h)).2.2) mi_Mod_item ml_Mod_284 im_Mod_item se_Mod_item rfl ⟨Nat.le_of_ble_eq_true rfl, Nat.le_of_ble_eq_true rfl⟩ ⟨Nat.le_of_ble_eq_true rfl, Nat.le_of_ble_eq_true rfl⟩ rfl rfl (Nat.le_of_ble_eq_true rfl)  ?_
    refine ev_goto 259 hC d_Mod_readItem_130 rfl ?_
    exact ev_vret hC hR d_Mod_readItem_259 rfl rfl (by rw [he, r1D, optR, h_113]; rfl)

set_option maxHeartbeats 4000000 in
set_option maxRecDepth 10000 in
theorem rd_77 {G : ex_G} {C : ex_C} {ee : List va_E} {M : ex_M} {n : Nat} {k b pu : Int32} (hn : n < 120) (h : RS n M) (hC : Cx G C Y_Mod_readItem { frames := 6, cells := 0, slots := 0, locals := 130 }) (hR : Cr G C Y_Mod_readItem 0 0 none ee) (he : ee = ce G (r1C k b pu M)) : Ev G C Y_Mod_readItem 77 [some (.ref (ex_b G + 71)), some (.int k), some (.int b), some (.int pu)] [] 0 0 (ce G (M)) := by
  refine ev_aload_n rfl hC d_Mod_readItem_77 ?_
  refine ev_ldcwS (i := 8) (tx := "goes") (by decide) hC d_Mod_readItem_78 ?_
  refine cv_Mod1 hC d_Mod_readItem_81 (c_Mod_isNext (w := 8) (by decide) h.1) mi_Mod_isNext ml_Mod_273 im_Mod_isNext se_Mod_isNext rfl ⟨Nat.le_of_ble_eq_true rfl, Nat.le_of_ble_eq_true rfl⟩ ⟨Nat.le_of_ble_eq_true rfl, Nat.le_of_ble_eq_true rfl⟩ rfl rfl (Nat.le_of_ble_eq_true rfl)  ?_
  refine eb_eq 97 hC d_Mod_readItem_84 rfl (fun h_84 => ?_) (fun h_84 => ?_)
  · refine ev_iconst (v := -1) rfl hC d_Mod_readItem_97 ?_
    refine ev_istore (by decide) hC d_Mod_readItem_98 ?_
    exact rd_100 hn (RS_isN h) hC hR (by rw [he, r1C, optR, h_84]; rfl)
  · refine ev_aload_n rfl hC d_Mod_readItem_87 ?_
    refine ev_iconst (v := 0) rfl hC d_Mod_readItem_88 ?_
    refine ev_bipush (v := 23) rfl hC d_Mod_readItem_89 ?_
    refine cv_Mod1 hC d_Mod_readItem_91 (c_Mod_number (RS_isN h).1) mi_Mod_number ml_Mod_278 im_Mod_number se_Mod_number rfl ⟨Nat.le_of_ble_eq_true rfl, Nat.le_of_ble_eq_true rfl⟩ ⟨Nat.le_of_ble_eq_true rfl, Nat.le_of_ble_eq_true rfl⟩ rfl rfl (Nat.le_of_ble_eq_true rfl)  ?_
    refine ev_goto 98 hC d_Mod_readItem_94 rfl ?_
    refine ev_istore (by decide) hC d_Mod_readItem_98 ?_
    exact rd_100 hn (RS_num (RS_isN h)) hC hR (by rw [he, r1C, optR, h_84]; rfl)

set_option maxHeartbeats 4000000 in
set_option maxRecDepth 10000 in
theorem rd_53 {G : ex_G} {C : ex_C} {ee : List va_E} {M : ex_M} {n : Nat} {k b : Int32} (hn : n < 120) (h : RS n M) (hC : Cx G C Y_Mod_readItem { frames := 6, cells := 0, slots := 0, locals := 130 }) (hR : Cr G C Y_Mod_readItem 0 0 none ee) (he : ee = ce G (r1B k b M)) : Ev G C Y_Mod_readItem 53 [some (.ref (ex_b G + 71)), some (.int k), some (.int b)] [] 0 0 (ce G (M)) := by
  refine ev_aload_n rfl hC d_Mod_readItem_53 ?_
  refine ev_ldcwS (i := 7) (tx := "purse") (by decide) hC d_Mod_readItem_54 ?_
  refine cv_Mod1 hC d_Mod_readItem_57 (c_Mod_isNext (w := 7) (by decide) h.1) mi_Mod_isNext ml_Mod_273 im_Mod_isNext se_Mod_isNext rfl ⟨Nat.le_of_ble_eq_true rfl, Nat.le_of_ble_eq_true rfl⟩ ⟨Nat.le_of_ble_eq_true rfl, Nat.le_of_ble_eq_true rfl⟩ rfl rfl (Nat.le_of_ble_eq_true rfl)  ?_
  refine eb_eq 74 hC d_Mod_readItem_60 rfl (fun h_60 => ?_) (fun h_60 => ?_)
  · refine ev_bipush (v := 50) rfl hC d_Mod_readItem_74 ?_
    refine ev_istore_n (by decide) hC d_Mod_readItem_76 ?_
    exact rd_77 hn (RS_isN h) hC hR (by rw [he, r1B, optR, h_60]; rfl)
  · refine ev_aload_n rfl hC d_Mod_readItem_63 ?_
    refine ev_iconst (v := 0) rfl hC d_Mod_readItem_64 ?_
    refine ev_sipush (v := 9999) rfl hC d_Mod_readItem_65 ?_
    refine cv_Mod1 hC d_Mod_readItem_68 (c_Mod_number (RS_isN h).1) mi_Mod_number ml_Mod_278 im_Mod_number se_Mod_number rfl ⟨Nat.le_of_ble_eq_true rfl, Nat.le_of_ble_eq_true rfl⟩ ⟨Nat.le_of_ble_eq_true rfl, Nat.le_of_ble_eq_true rfl⟩ rfl rfl (Nat.le_of_ble_eq_true rfl)  ?_
    refine ev_goto 76 hC d_Mod_readItem_71 rfl ?_
    refine ev_istore_n (by decide) hC d_Mod_readItem_76 ?_
    exact rd_77 hn (RS_num (RS_isN h)) hC hR (by rw [he, r1B, optR, h_60]; rfl)

set_option maxHeartbeats 4000000 in
set_option maxRecDepth 10000 in
theorem rd_37 {G : ex_G} {C : ex_C} {ee : List va_E} {M : ex_M} {n : Nat} {k : Int32} (hn : n < 120) (h : RS n M) (hC : Cx G C Y_Mod_readItem { frames := 6, cells := 0, slots := 0, locals := 130 }) (hR : Cr G C Y_Mod_readItem 0 0 none ee) (he : ee = ce G (r1A k M)) : Ev G C Y_Mod_readItem 37 [some (.ref (ex_b G + 71)), some (.int k)] [] 0 0 (ce G (M)) := by
  refine ev_aload_n rfl hC d_Mod_readItem_37 ?_
  refine ev_ldcwS (i := 6) (tx := "left") (by decide) hC d_Mod_readItem_38 ?_
  refine cv_Mod1 hC d_Mod_readItem_41 (c_Mod_isNext (w := 6) (by decide) h.1) mi_Mod_isNext ml_Mod_273 im_Mod_isNext se_Mod_isNext rfl ⟨Nat.le_of_ble_eq_true rfl, Nat.le_of_ble_eq_true rfl⟩ ⟨Nat.le_of_ble_eq_true rfl, Nat.le_of_ble_eq_true rfl⟩ rfl rfl (Nat.le_of_ble_eq_true rfl)  ?_
  refine eb_eq 51 hC d_Mod_readItem_44 rfl (fun h_44 => ?_) (fun h_44 => ?_)
  · refine ev_iconst (v := 0) rfl hC d_Mod_readItem_51 ?_
    refine ev_istore_n (by decide) hC d_Mod_readItem_52 ?_
    exact rd_53 hn (RS_isN h) hC hR (by rw [he, r1A, h_44]; rfl)
  · refine ev_iconst (v := 1) rfl hC d_Mod_readItem_47 ?_
    refine ev_goto 52 hC d_Mod_readItem_48 rfl ?_
    refine ev_istore_n (by decide) hC d_Mod_readItem_52 ?_
    exact rd_53 hn (RS_isN h) hC hR (by rw [he, r1A, h_44]; rfl)

set_option maxHeartbeats 4000000 in
set_option maxRecDepth 10000 in
theorem rd_171 {G : ex_G} {C : ex_C} {ee : List va_E} {M : ex_M} {n : Nat} {k : Int32} (hn : n < 120) (h : RS n M) (hC : Cx G C Y_Mod_readItem { frames := 6, cells := 0, slots := 0, locals := 130 }) (hR : Cr G C Y_Mod_readItem 0 0 none ee) (he : ee = ce G (re3 (numR M 9999))) : Ev G C Y_Mod_readItem 171 [some (.ref (ex_b G + 71)), some (.int k)] [] 0 0 (ce G (M)) := by
  refine ev_aload_n rfl hC d_Mod_readItem_171 ?_
  refine ev_iconst (v := 0) rfl hC d_Mod_readItem_172 ?_
  refine ev_sipush (v := 9999) rfl hC d_Mod_readItem_173 ?_
  refine cv_Mod1 hC d_Mod_readItem_176 (c_Mod_number h.1) mi_Mod_number ml_Mod_278 im_Mod_number se_Mod_number rfl ⟨Nat.le_of_ble_eq_true rfl, Nat.le_of_ble_eq_true rfl⟩ ⟨Nat.le_of_ble_eq_true rfl, Nat.le_of_ble_eq_true rfl⟩ rfl rfl (Nat.le_of_ble_eq_true rfl)  ?_
  refine ev_istore_n (by decide) hC d_Mod_readItem_179 ?_
  refine ev_aload_n rfl hC d_Mod_readItem_180 ?_
  refine ev_aload_n rfl hC d_Mod_readItem_181 ?_
  refine ev_ldcwS (i := 11) (tx := "worth") (by decide) hC d_Mod_readItem_182 ?_
  refine cv_Mod1 hC d_Mod_readItem_185 (c_Mod_isWord (w := 11) (by decide) (RS_num h).1) mi_Mod_isWord ml_Mod_261 im_Mod_isWord se_Mod_isWord rfl ⟨Nat.le_of_ble_eq_true rfl, Nat.le_of_ble_eq_true rfl⟩ ⟨Nat.le_of_ble_eq_true rfl, Nat.le_of_ble_eq_true rfl⟩ rfl rfl (Nat.le_of_ble_eq_true rfl)  ?_
  refine cv_Mod0 hC d_Mod_readItem_188 (c_Mod_must (RS_num h).1) mi_Mod_must ml_Mod_254 im_Mod_must se_Mod_must rfl ⟨Nat.le_of_ble_eq_true rfl, Nat.le_of_ble_eq_true rfl⟩ ⟨Nat.le_of_ble_eq_true rfl, Nat.le_of_ble_eq_true rfl⟩ rfl rfl (Nat.le_of_ble_eq_true rfl)  ?_
  refine ev_aload_n rfl hC d_Mod_readItem_191 ?_
  refine ev_ldcwS (i := 12) (tx := "less") (by decide) hC d_Mod_readItem_192 ?_
  refine cv_Mod1 hC d_Mod_readItem_195 (c_Mod_isNext (w := 12) (by decide) (RS_mst (RS_num h)).1) mi_Mod_isNext ml_Mod_273 im_Mod_isNext se_Mod_isNext rfl ⟨Nat.le_of_ble_eq_true rfl, Nat.le_of_ble_eq_true rfl⟩ ⟨Nat.le_of_ble_eq_true rfl, Nat.le_of_ble_eq_true rfl⟩ rfl rfl (Nat.le_of_ble_eq_true rfl)  ?_
  refine ev_istore_n (by decide) hC d_Mod_readItem_198 ?_
  refine ev_aload_n rfl hC d_Mod_readItem_199 ?_
  refine ev_iconst (v := 0) rfl hC d_Mod_readItem_200 ?_
  refine ev_bipush (v := 99) rfl hC d_Mod_readItem_201 ?_
  refine cv_Mod1 hC d_Mod_readItem_203 (c_Mod_number (RS_isN (RS_mst (RS_num h))).1) mi_Mod_number ml_Mod_278 im_Mod_number se_Mod_number rfl ⟨Nat.le_of_ble_eq_true rfl, Nat.le_of_ble_eq_true rfl⟩ ⟨Nat.le_of_ble_eq_true rfl, Nat.le_of_ble_eq_true rfl⟩ rfl rfl (Nat.le_of_ble_eq_true rfl)  ?_
  refine ev_istore (by decide) hC d_Mod_readItem_206 ?_
  refine ev_aload_n rfl hC d_Mod_readItem_208 ?_
  refine ev_bipush (v := 10) rfl hC d_Mod_readItem_209 ?_
  refine ev_iload_n rfl hC d_Mod_readItem_211 ?_
  refine ev_iload_n rfl hC d_Mod_readItem_212 ?_
  refine eb_eq 222 hC d_Mod_readItem_213 rfl (fun h_213 => ?_) (fun h_213 => ?_)
  · refine ev_iload rfl hC d_Mod_readItem_222 ?_
    refine ev_iconst (v := 0) rfl hC d_Mod_readItem_224 ?_
    refine ev_iconst (v := 0) rfl hC d_Mod_readItem_225 ?_
    refine cv_Mod0 hC d_Mod_readItem_226 (c_Mod_item hn (RS_num (RS_isN (RS_mst (RS_num h)))).2.2) mi_Mod_item ml_Mod_284 im_Mod_item se_Mod_item rfl ⟨Nat.le_of_ble_eq_true rfl, Nat.le_of_ble_eq_true rfl⟩ ⟨Nat.le_of_ble_eq_true rfl, Nat.le_of_ble_eq_true rfl⟩ rfl rfl (Nat.le_of_ble_eq_true rfl)  ?_
    refine ev_goto 259 hC d_Mod_readItem_229 rfl ?_
    exact ev_vret hC hR d_Mod_readItem_259 rfl rfl (by simp only [he, re3, re4, re5, h_213, cond_true, cond_false])
  · refine ev_iload rfl hC d_Mod_readItem_216 ?_
    refine ev_ineg hC d_Mod_readItem_218 ?_
    refine ev_goto 224 hC d_Mod_readItem_219 rfl ?_
    refine ev_iconst (v := 0) rfl hC d_Mod_readItem_224 ?_
    refine ev_iconst (v := 0) rfl hC d_Mod_readItem_225 ?_
    refine cv_Mod0 hC d_Mod_readItem_226 (c_Mod_item hn (RS_num (RS_isN (RS_mst (RS_num h)))).2.2) mi_Mod_item ml_Mod_284 im_Mod_item se_Mod_item rfl ⟨Nat.le_of_ble_eq_true rfl, Nat.le_of_ble_eq_true rfl⟩ ⟨Nat.le_of_ble_eq_true rfl, Nat.le_of_ble_eq_true rfl⟩ rfl rfl (Nat.le_of_ble_eq_true rfl)  ?_
    refine ev_goto 259 hC d_Mod_readItem_229 rfl ?_
    exact ev_vret hC hR d_Mod_readItem_259 rfl rfl (by simp only [he, re3, re4, re5, h_213, cond_true, cond_false])

set_option maxHeartbeats 4000000 in
set_option maxRecDepth 10000 in
theorem rd_232 {G : ex_G} {C : ex_C} {ee : List va_E} {M : ex_M} {n : Nat} {k : Int32} (hn : n < 120) (h : RS n M) (hC : Cx G C Y_Mod_readItem { frames := 6, cells := 0, slots := 0, locals := 130 }) (hR : Cr G C Y_Mod_readItem 0 0 none ee) (he : ee = ce G (rTo M)) : Ev G C Y_Mod_readItem 232 [some (.ref (ex_b G + 71)), some (.int k)] [] 0 0 (ce G (M)) := by
  refine ev_aload_n rfl hC d_Mod_readItem_232 ?_
  refine ev_aload_n rfl hC d_Mod_readItem_233 ?_
  refine ev_ldcwS (i := 13) (tx := "toll") (by decide) hC d_Mod_readItem_234 ?_
  refine cv_Mod1 hC d_Mod_readItem_237 (c_Mod_isWord (w := 13) (by decide) h.1) mi_Mod_isWord ml_Mod_261 im_Mod_isWord se_Mod_isWord rfl ⟨Nat.le_of_ble_eq_true rfl, Nat.le_of_ble_eq_true rfl⟩ ⟨Nat.le_of_ble_eq_true rfl, Nat.le_of_ble_eq_true rfl⟩ rfl rfl (Nat.le_of_ble_eq_true rfl)  ?_
  refine cv_Mod0 hC d_Mod_readItem_240 (c_Mod_must h.1) mi_Mod_must ml_Mod_254 im_Mod_must se_Mod_must rfl ⟨Nat.le_of_ble_eq_true rfl, Nat.le_of_ble_eq_true rfl⟩ ⟨Nat.le_of_ble_eq_true rfl, Nat.le_of_ble_eq_true rfl⟩ rfl rfl (Nat.le_of_ble_eq_true rfl)  ?_
  refine ev_aload_n rfl hC d_Mod_readItem_243 ?_
  refine ev_bipush (v := 11) rfl hC d_Mod_readItem_244 ?_
  refine ev_aload_n rfl hC d_Mod_readItem_246 ?_
  refine ev_iconst (v := 0) rfl hC d_Mod_readItem_247 ?_
  refine ev_bipush (v := 99) rfl hC d_Mod_readItem_248 ?_
  refine cv_Mod1 hC d_Mod_readItem_250 (c_Mod_number (RS_mst h).1) mi_Mod_number ml_Mod_278 im_Mod_number se_Mod_number rfl ⟨Nat.le_of_ble_eq_true rfl, Nat.le_of_ble_eq_true rfl⟩ ⟨Nat.le_of_ble_eq_true rfl, Nat.le_of_ble_eq_true rfl⟩ rfl rfl (Nat.le_of_ble_eq_true rfl)  ?_
  refine ev_iconst (v := 0) rfl hC d_Mod_readItem_253 ?_
  refine ev_iconst (v := 0) rfl hC d_Mod_readItem_254 ?_
  refine ev_iconst (v := 0) rfl hC d_Mod_readItem_255 ?_
  refine cv_Mod0 hC d_Mod_readItem_256 (c_Mod_item hn (RS_num (RS_mst h)).2.2) mi_Mod_item ml_Mod_284 im_Mod_item se_Mod_item rfl ⟨Nat.le_of_ble_eq_true rfl, Nat.le_of_ble_eq_true rfl⟩ ⟨Nat.le_of_ble_eq_true rfl, Nat.le_of_ble_eq_true rfl⟩ rfl rfl (Nat.le_of_ble_eq_true rfl)  ?_
  exact ev_vret hC hR d_Mod_readItem_259 rfl rfl (by rw [he, rTo])

set_option maxHeartbeats 2000000 in
set_option maxRecDepth 10000 in
theorem c_Mod_readItem {G : ex_G} {M : ex_M} {n : Nat} (hn : n < 120) (h : RS n M) : Con G Y_Mod_readItem 6 130 0 0 [.ref (ex_b G + 71)] (ce G M) (none) (ce G (rdI M)) := by
  refine Con.ofF (plainFor_of_name (by decide +kernel)) (Nat.le_of_ble_eq_true rfl) (fun C hC hR => ?_)
  show Ev G C Y_Mod_readItem 0 [some (.ref (ex_b G + 71))] [] 0 0 (ce G M)
  refine ev_aload_n rfl hC d_Mod_readItem_0 ?_
  refine cv_Mod1 hC d_Mod_readItem_1 (c_Mod_kindTold h.1) mi_Mod_kindTold ml_Mod_265 im_Mod_kindTold se_Mod_kindTold rfl ⟨Nat.le_of_ble_eq_true rfl, Nat.le_of_ble_eq_true rfl⟩ ⟨Nat.le_of_ble_eq_true rfl, Nat.le_of_ble_eq_true rfl⟩ rfl rfl (Nat.le_of_ble_eq_true rfl)  ?_
  refine ev_istore_n (by decide) hC d_Mod_readItem_4 ?_
  refine ev_iload_n rfl hC d_Mod_readItem_5 ?_
  refine ev_if_lt 133 hC d_Mod_readItem_6 rfl (fun h_6 => ?_) (fun h_6 => ?_)
  · refine ev_aload_n rfl hC d_Mod_readItem_133 ?_
    refine ev_ldcwS (i := 10) (tx := "event") (by decide) hC d_Mod_readItem_134 ?_
    refine cv_Mod1 hC d_Mod_readItem_137 (c_Mod_isWord (w := 10) (by decide) h.1) mi_Mod_isWord ml_Mod_261 im_Mod_isWord se_Mod_isWord rfl ⟨Nat.le_of_ble_eq_true rfl, Nat.le_of_ble_eq_true rfl⟩ ⟨Nat.le_of_ble_eq_true rfl, Nat.le_of_ble_eq_true rfl⟩ rfl rfl (Nat.le_of_ble_eq_true rfl)  ?_
    refine eb_eq 232 hC d_Mod_readItem_140 rfl (fun h_140 => ?_) (fun h_140 => ?_)
    · exact rd_232 hn h hC hR (by rw [rdI, if_pos h_6, h_140, cond_false])
    · refine ev_aload_n rfl hC d_Mod_readItem_143 ?_
      refine ev_aload_n rfl hC d_Mod_readItem_144 ?_
      refine gv_Mod_eventThen hC d_Mod_readItem_145 fl_Mod_290  ?_
      refine ev_bipush (v := 8) rfl hC d_Mod_readItem_148 ?_
      refine ev_icmp_ge 157 hC d_Mod_readItem_150 rfl (fun h_150 => ?_) (fun h_150 => ?_)
      · refine ev_iconst (v := 0) rfl hC d_Mod_readItem_157 ?_
        refine cv_Mod0 hC d_Mod_readItem_158 (c_Mod_must (b := false) h.1) mi_Mod_must ml_Mod_254 im_Mod_must se_Mod_must rfl ⟨Nat.le_of_ble_eq_true rfl, Nat.le_of_ble_eq_true rfl⟩ ⟨Nat.le_of_ble_eq_true rfl, Nat.le_of_ble_eq_true rfl⟩ rfl rfl (Nat.le_of_ble_eq_true rfl)  ?_
        refine ev_aload_n rfl hC d_Mod_readItem_161 ?_
        refine ev_dup rfl hC d_Mod_readItem_162 ?_
        refine gv_Mod_eventThen hC d_Mod_readItem_163 fl_Mod_290  ?_
        refine ev_iconst (v := 1) rfl hC d_Mod_readItem_166 ?_
        refine ev_iadd hC d_Mod_readItem_167 ?_
        refine pv_Mod_eventThen hC d_Mod_readItem_168 fl_Mod_290  ?_
        exact rd_171 hn (Lat_inc (j := 11) (Or.inr rfl) (RS_mst (b := false) h)).1 hC hR (by rw [rdI, if_pos h_6, h_140, cond_true, rEv, ge8_f h_150]; rfl)
      · refine ev_iconst (v := 1) rfl hC d_Mod_readItem_153 ?_
        refine ev_goto 158 hC d_Mod_readItem_154 rfl ?_
        refine cv_Mod0 hC d_Mod_readItem_158 (c_Mod_must (b := true) h.1) mi_Mod_must ml_Mod_254 im_Mod_must se_Mod_must rfl ⟨Nat.le_of_ble_eq_true rfl, Nat.le_of_ble_eq_true rfl⟩ ⟨Nat.le_of_ble_eq_true rfl, Nat.le_of_ble_eq_true rfl⟩ rfl rfl (Nat.le_of_ble_eq_true rfl)  ?_
        refine ev_aload_n rfl hC d_Mod_readItem_161 ?_
        refine ev_dup rfl hC d_Mod_readItem_162 ?_
        refine gv_Mod_eventThen hC d_Mod_readItem_163 fl_Mod_290  ?_
        refine ev_iconst (v := 1) rfl hC d_Mod_readItem_166 ?_
        refine ev_iadd hC d_Mod_readItem_167 ?_
        refine pv_Mod_eventThen hC d_Mod_readItem_168 fl_Mod_290  ?_
        exact rd_171 hn (Lat_inc (j := 11) (Or.inr rfl) (RS_mst (b := true) h)).1 hC hR (by rw [rdI, if_pos h_6, h_140, cond_true, rEv, ge8_t h_150]; rfl)
  · refine ev_aload_n rfl hC d_Mod_readItem_9 ?_
    refine ev_aload_n rfl hC d_Mod_readItem_10 ?_
    refine gv_Mod_oneThen hC d_Mod_readItem_11 fl_Mod_268  ?_
    refine ev_bipush (v := 8) rfl hC d_Mod_readItem_14 ?_
    refine ev_icmp_ge 23 hC d_Mod_readItem_16 rfl (fun h_16 => ?_) (fun h_16 => ?_)
    · refine ev_iconst (v := 0) rfl hC d_Mod_readItem_23 ?_
      refine cv_Mod0 hC d_Mod_readItem_24 (c_Mod_must (b := false) h.1) mi_Mod_must ml_Mod_254 im_Mod_must se_Mod_must rfl ⟨Nat.le_of_ble_eq_true rfl, Nat.le_of_ble_eq_true rfl⟩ ⟨Nat.le_of_ble_eq_true rfl, Nat.le_of_ble_eq_true rfl⟩ rfl rfl (Nat.le_of_ble_eq_true rfl)  ?_
      refine ev_aload_n rfl hC d_Mod_readItem_27 ?_
      refine ev_dup rfl hC d_Mod_readItem_28 ?_
      refine gv_Mod_oneThen hC d_Mod_readItem_29 fl_Mod_268  ?_
      refine ev_iconst (v := 1) rfl hC d_Mod_readItem_32 ?_
      refine ev_iadd hC d_Mod_readItem_33 ?_
      refine pv_Mod_oneThen hC d_Mod_readItem_34 fl_Mod_268  ?_
      exact rd_37 hn (Lat_inc (j := 10) (Or.inl rfl) (RS_mst (b := false) h)).1 hC hR (by rw [rdI, if_neg h_6, rOne, ge8_f h_16]; rfl)
    · refine ev_iconst (v := 1) rfl hC d_Mod_readItem_19 ?_
      refine ev_goto 24 hC d_Mod_readItem_20 rfl ?_
      refine cv_Mod0 hC d_Mod_readItem_24 (c_Mod_must (b := true) h.1) mi_Mod_must ml_Mod_254 im_Mod_must se_Mod_must rfl ⟨Nat.le_of_ble_eq_true rfl, Nat.le_of_ble_eq_true rfl⟩ ⟨Nat.le_of_ble_eq_true rfl, Nat.le_of_ble_eq_true rfl⟩ rfl rfl (Nat.le_of_ble_eq_true rfl)  ?_
      refine ev_aload_n rfl hC d_Mod_readItem_27 ?_
      refine ev_dup rfl hC d_Mod_readItem_28 ?_
      refine gv_Mod_oneThen hC d_Mod_readItem_29 fl_Mod_268  ?_
      refine ev_iconst (v := 1) rfl hC d_Mod_readItem_32 ?_
      refine ev_iadd hC d_Mod_readItem_33 ?_
      refine pv_Mod_oneThen hC d_Mod_readItem_34 fl_Mod_268  ?_
      exact rd_37 hn (Lat_inc (j := 10) (Or.inl rfl) (RS_mst (b := true) h)).1 hC hR (by rw [rdI, if_neg h_6, rOne, ge8_t h_16]; rfl)

set_option maxHeartbeats 2000000 in
set_option maxRecDepth 10000 in
theorem c_Mod_isSo {G : ex_G} {M : ex_M} {k : Nat} (hk : k < 120) (ok : okI (M.1 16) k (M.1 10)) : Con G Y_Mod_isSo 2 47 0 0 [.ref (ex_b G + 71), .int (nI (5 * k))] (ce G M) (some (.int (soV (M.1 16) k (M.1 10)))) (ce G (mI M 10 (apI (M.1 16) k (M.1 10)))) := by
  refine Con.ofF (plainFor_of_name (by decide +kernel)) (Nat.le_of_ble_eq_true rfl) (fun C hC hR => ?_)
  show Ev G C Y_Mod_isSo 0 [some (.ref (ex_b G + 71)), some (.int (nI (5 * k)))] [] 0 0 (ce G M)
  refine ev_aload_n rfl hC d_Mod_isSo_0 ?_
  refine gv_Mod_items hC d_Mod_isSo_1 fl_Mod_47  ?_
  refine ev_iload_n rfl hC d_Mod_isSo_4 ?_
  refine ev_iconst (v := nI 1) rfl hC d_Mod_isSo_5 ?_
  refine ev_iadd hC d_Mod_isSo_6 ?_
  rw [nI_add]
  refine ga_items hC d_Mod_isSo_7 (by first | assumption | omega) ?_
  refine ev_istore_n (by decide) hC d_Mod_isSo_8 ?_
  refine ev_aload_n rfl hC d_Mod_isSo_9 ?_
  refine gv_Mod_items hC d_Mod_isSo_10 fl_Mod_47  ?_
  refine ev_iload_n rfl hC d_Mod_isSo_13 ?_
  refine ev_iconst (v := nI 2) rfl hC d_Mod_isSo_14 ?_
  refine ev_iadd hC d_Mod_isSo_15 ?_
  rw [nI_add]
  refine ga_items hC d_Mod_isSo_16 (by first | assumption | omega) ?_
  refine ev_istore_n (by decide) hC d_Mod_isSo_17 ?_
  refine ev_aload_n rfl hC d_Mod_isSo_18 ?_
  refine gv_Mod_items hC d_Mod_isSo_19 fl_Mod_47  ?_
  refine ev_iload_n rfl hC d_Mod_isSo_22 ?_
  refine ga_items hC d_Mod_isSo_23 (by first | assumption | omega) ?_
  refine ev_bipush (v := 10) rfl hC d_Mod_isSo_24 ?_
  refine ev_icmp_ne 38 hC d_Mod_isSo_26 rfl (fun h_26 => ?_) (fun h_26 => ?_)
  · refine ev_aload_n rfl hC d_Mod_isSo_38 ?_
    refine gv_Mod_items hC d_Mod_isSo_39 fl_Mod_47  ?_
    refine ev_iload_n rfl hC d_Mod_isSo_42 ?_
    refine ga_items hC d_Mod_isSo_43 (by first | assumption | omega) ?_
    refine ev_bipush (v := 11) rfl hC d_Mod_isSo_44 ?_
    refine ev_icmp_ne 58 hC d_Mod_isSo_46 rfl (fun h_46 => ?_) (fun h_46 => ?_)
    · obtain ⟨n, hn, en⟩ := ok.2.2 h_26 h_46
      refine ev_aload_n rfl hC d_Mod_isSo_58 ?_
      refine ev_aload_n rfl hC d_Mod_isSo_59 ?_
      refine gv_Mod_items hC d_Mod_isSo_60 fl_Mod_47  ?_
      refine ev_iload_n rfl hC d_Mod_isSo_63 ?_
      refine ga_items hC d_Mod_isSo_64 (by first | assumption | omega) ?_
      refine ev_iload_n rfl hC d_Mod_isSo_65 ?_
      refine ev_iload_n rfl hC d_Mod_isSo_66 ?_
      refine ev_aload_n rfl hC d_Mod_isSo_67 ?_
      refine gv_Mod_items hC d_Mod_isSo_68 fl_Mod_47  ?_
      refine ev_iload_n rfl hC d_Mod_isSo_71 ?_
      refine ev_iconst (v := nI 3) rfl hC d_Mod_isSo_72 ?_
      refine ev_iadd hC d_Mod_isSo_73 ?_
      rw [nI_add]
      refine ga_items hC d_Mod_isSo_74 (by first | assumption | omega) ?_
      refine ev_aload_n rfl hC d_Mod_isSo_75 ?_
      refine gv_Mod_items hC d_Mod_isSo_76 fl_Mod_47  ?_
      refine ev_iload_n rfl hC d_Mod_isSo_79 ?_
      refine ev_iconst (v := nI 4) rfl hC d_Mod_isSo_80 ?_
      refine ev_iadd hC d_Mod_isSo_81 ?_
      rw [nI_add]
      refine ga_items hC d_Mod_isSo_82 (by first | assumption | omega) ?_
      refine cv_Mod1 hC d_Mod_isSo_83 (c_Mod_comes hn en) mi_Mod_comes ml_Mod_118 im_Mod_comes se_Mod_comes rfl ⟨Nat.le_of_ble_eq_true rfl, Nat.le_of_ble_eq_true rfl⟩ ⟨Nat.le_of_ble_eq_true rfl, Nat.le_of_ble_eq_true rfl⟩ rfl rfl (Nat.le_of_ble_eq_true rfl)  ?_
      exact ev_iret hC hR d_Mod_isSo_86 rfl (by rw [soV, if_neg h_26, if_neg h_46, en]) (by rw [apI, if_neg h_26, if_neg h_46, en, show ix (nI n) = n from nI_clamp (by omega)])
    · refine ev_aload_n rfl hC d_Mod_isSo_49 ?_
      refine ev_iconst (v := nI 1) rfl hC d_Mod_isSo_50 ?_
      refine ev_iload_n rfl hC d_Mod_isSo_51 ?_
      refine cv_Mod1 hC d_Mod_isSo_52 (c_Mod_become (i := 1) (by omega)) mi_Mod_become ml_Mod_79 im_Mod_become se_Mod_become rfl ⟨Nat.le_of_ble_eq_true rfl, Nat.le_of_ble_eq_true rfl⟩ ⟨Nat.le_of_ble_eq_true rfl, Nat.le_of_ble_eq_true rfl⟩ rfl rfl (Nat.le_of_ble_eq_true rfl)  ?_
      refine ev_goto 86 hC d_Mod_isSo_55 rfl ?_
      exact ev_iret hC hR d_Mod_isSo_86 rfl (by rw [soV, if_neg h_26, if_pos h_46]) (by rw [apI, if_neg h_26, if_pos h_46])
  · obtain ⟨n, hn, en⟩ := ok.1 h_26
    refine ev_aload_n rfl hC d_Mod_isSo_29 ?_
    refine ev_iload_n rfl hC d_Mod_isSo_30 ?_
    refine ev_iload_n rfl hC d_Mod_isSo_31 ?_
    refine cv_Mod1 hC d_Mod_isSo_32 (c_Mod_happens hn en) mi_Mod_happens ml_Mod_91 im_Mod_happens se_Mod_happens rfl ⟨Nat.le_of_ble_eq_true rfl, Nat.le_of_ble_eq_true rfl⟩ ⟨Nat.le_of_ble_eq_true rfl, Nat.le_of_ble_eq_true rfl⟩ rfl rfl (Nat.le_of_ble_eq_true rfl)  ?_
    refine ev_goto 86 hC d_Mod_isSo_35 rfl ?_
    exact ev_iret hC hR d_Mod_isSo_86 rfl (by rw [soV, if_pos h_26, en]) (by rw [apI, if_pos h_26, en, show ix (nI n) = n from nI_clamp (by omega)])

theorem psE {M : ex_M} (h : RKI M) : M.1 14 4 = nI (ps M) := by
  obtain ⟨l, p, e, h1, h2, h3, h4, h5, h6, h7, h8⟩ := h
  rw [ps, h3, show ix (nI p) = p from nI_clamp (by omega)]

set_option maxHeartbeats 4000000 in
set_option maxRecDepth 10000 in
theorem lp_river {G : ex_G} {C : ex_C} (hC : Cx G C Y_Mod_river { frames := 7, cells := 0, slots := 0, locals := 154 }) :
    ∀ (m n : Nat) (M : ex_M), RS n M → (M.1 14 8 = 0 → 2 * n ≤ ps M + 1) → (M.1 14 8 = 0 → 120 ≤ ps M + m) → Ev G C Y_Mod_river 84 [some (.ref (ex_b G + 71))] [] 0 0 (ce G (rvL m M)) → Ev G C Y_Mod_river 43 [some (.ref (ex_b G + 71))] [] 0 0 (ce G M) := by
  intro m
  induction m with
  | zero =>
    intro n M h h2 hm0 he
    refine ev_aload_n rfl hC d_Mod_river_43 ?_
    refine gv_Mod_isWrong hC d_Mod_river_44 fl_Mod_247  ?_
    refine ev_if_ne 84 hC d_Mod_river_47 rfl (fun h_47 => ?_) (fun h_47 => ?_)
    · exact he
    · refine ev_aload_n rfl hC d_Mod_river_50 ?_
      refine gv_Mod_sort hC d_Mod_river_51 fl_Mod_237  ?_
      refine ev_iconst (v := 3) rfl hC d_Mod_river_54 ?_
      refine ev_icmp_ne 84 hC d_Mod_river_55 rfl (fun h_55 => ?_) (fun h_55 => ?_)
      · exact he
      · exact absurd (ps_lt h.1 (by rw [h_55]; decide)) (by have := hm0 h_47; omega)
  | succ m ih =>
    intro n M h h2 hm0 he
    refine ev_aload_n rfl hC d_Mod_river_43 ?_
    refine gv_Mod_isWrong hC d_Mod_river_44 fl_Mod_247  ?_
    refine ev_if_ne 84 hC d_Mod_river_47 rfl (fun h_47 => ?_) (fun h_47 => ?_)
    · rw [rvL, decide_eq_false h_47, Bool.false_and, cond_false] at he
      exact he
    · refine ev_aload_n rfl hC d_Mod_river_50 ?_
      refine gv_Mod_sort hC d_Mod_river_51 fl_Mod_237  ?_
      refine ev_iconst (v := 3) rfl hC d_Mod_river_54 ?_
      refine ev_icmp_ne 84 hC d_Mod_river_55 rfl (fun h_55 => ?_) (fun h_55 => ?_)
      · rw [rvL, decide_eq_true h_47, decide_eq_false h_55, Bool.false_and, Bool.and_false, cond_false] at he
        exact he
      · have h59 : ps M < 120 := ps_lt h.1 (by rw [h_55]; decide)
        refine ev_aload_n rfl hC d_Mod_river_58 ?_
        refine gv_Mod_tape hC d_Mod_river_59 fl_Mod_26  ?_
        refine ev_aload_n rfl hC d_Mod_river_62 ?_
        refine gv_Mod_begins hC d_Mod_river_63 fl_Mod_228  ?_
        rw [psE h.1]
        refine ga_tape hC d_Mod_river_66 (by first | assumption | omega) ?_
        refine ev_bipush (v := 59) rfl hC d_Mod_river_67 ?_
        refine ev_icmp_ne 84 hC d_Mod_river_69 rfl (fun h_69 => ?_) (fun h_69 => ?_)
        · rw [rvL, decide_eq_true h_47, decide_eq_true h_55, decide_eq_false h_69, Bool.and_false, Bool.and_false, cond_false] at he
          exact he
        · refine ev_aload_n rfl hC d_Mod_river_72 ?_
          refine ev_iconst (v := 1) rfl hC d_Mod_river_73 ?_
          refine cv_Mod0 hC d_Mod_river_74 (c_Mod_must (b := true) h.1) mi_Mod_must ml_Mod_254 im_Mod_must se_Mod_must rfl ⟨Nat.le_of_ble_eq_true rfl, Nat.le_of_ble_eq_true rfl⟩ ⟨Nat.le_of_ble_eq_true rfl, Nat.le_of_ble_eq_true rfl⟩ rfl rfl (Nat.le_of_ble_eq_true rfl)  ?_
          refine ev_aload_n rfl hC d_Mod_river_77 ?_
          refine cv_Mod0 hC d_Mod_river_78 (c_Mod_readItem (n := n) (by have := h2 h_47; have := (ps_nxt h.1).2 (by rw [h_55]; decide); have := ps_le (RKI_nxt h.1); omega) (RS_mst h)) mi_Mod_readItem ml_Mod_299 im_Mod_readItem se_Mod_readItem rfl ⟨Nat.le_of_ble_eq_true rfl, Nat.le_of_ble_eq_true rfl⟩ ⟨Nat.le_of_ble_eq_true rfl, Nat.le_of_ble_eq_true rfl⟩ rfl rfl (Nat.le_of_ble_eq_true rfl)  ?_
          refine ev_goto 43 hC d_Mod_river_81 rfl ?_
          have e8 : M.1 14 8 = 0 := h_47
          have hm : mstR M true = nxt M := by unfold mstR; rw [decide_eq_true e8]; rfl
          have p1 := (ps_nxt h.1).2 (by rw [h_55]; decide)
          have p2 := ps_le (RKI_nxt h.1)
          have q := Lat_rdI (n := n) (M := mstR M true) (by have := h2 e8; omega) (RS_mst h)
          refine ih (n + 1) _ q.1 (fun z8 => ?_) ?_ ?_
          · have a := q.2 z8
            rw [hm] at a
            have := h2 e8
            rw [hm]
            omega
          · by_cases z8 : (rdI (mstR M true)).1 14 8 = 0
            · intro _
              have a := q.2 z8
              rw [hm] at a
              have := hm0 e8
              rw [hm]
              omega
            · intro z; exact absurd z z8
          · rw [rvL, decide_eq_true h_47, decide_eq_true h_55, decide_eq_true h_69] at he
            exact he

set_option maxHeartbeats 4000000 in
set_option maxRecDepth 10000 in
theorem lp_so {G : ex_G} {C : ex_C} {rr : Option Value} {ee : List va_E} {it : Nat → Int32} {n : Nat} (hn : n ≤ 120) (hC : Cx G C Y_Mod_river { frames := 7, cells := 0, slots := 0, locals := 154 }) (hR : Cr G C Y_Mod_river 0 0 rr ee) :
    ∀ (m i : Nat) (M : ex_M), i + m = n → M.1 14 9 = nI n ∧ M.1 16 = it ∧ okL it m i (M.1 10) → rr = some (.int (nI n)) ∧ ee = ce G (mI M 10 (rp (apI it) m i (M.1 10))) → Ev G C Y_Mod_river 123 [some (.ref (ex_b G + 71)), some (.int (nI i)), some (.int (nI i))] [] 0 0 (ce G (M)) := by
  intro m
  induction m with
  | zero =>
    intro i M hm hc he
    refine ev_iload_n rfl hC d_Mod_river_123 ?_
    refine ev_aload_n rfl hC d_Mod_river_124 ?_
    refine gv_Mod_itemMany hC d_Mod_river_125 fl_Mod_258  ?_
    refine ev_icmp_ge 155 hC d_Mod_river_128 rfl (fun _ => ?_) (fun h => absurd (by rw [hc.1]; exact nI_le (by omega) (by omega)) h)
    refine ev_iload_n rfl hC d_Mod_river_155 ?_
    exact ev_iret hC hR d_Mod_river_156 rfl (by rw [he.1, show i = n by omega]) (by rw [he.2, rp, mI_id])
  | succ m ih =>
    intro i M hm hc he
    have hi : i < 120 := by omega
    refine ev_iload_n rfl hC d_Mod_river_123 ?_
    refine ev_aload_n rfl hC d_Mod_river_124 ?_
    refine gv_Mod_itemMany hC d_Mod_river_125 fl_Mod_258  ?_
    refine ev_icmp_ge 155 hC d_Mod_river_128 rfl (fun h => absurd h (by rw [hc.1]; exact nI_ge (by omega) (by omega))) (fun _ => ?_)
    refine ev_iload_n rfl hC d_Mod_river_131 ?_
    refine ev_aload_n rfl hC d_Mod_river_132 ?_
    refine ev_iconst (v := nI 5) rfl hC d_Mod_river_133 ?_
    refine ev_iload_n rfl hC d_Mod_river_134 ?_
    refine ev_imul hC d_Mod_river_135 ?_
    rw [pk_mul]
    refine cv_Mod1 hC d_Mod_river_136 (c_Mod_isSo (k := i) hi (by rw [hc.2.1]; exact hc.2.2.1)) mi_Mod_isSo ml_Mod_302 im_Mod_isSo se_Mod_isSo rfl ⟨Nat.le_of_ble_eq_true rfl, Nat.le_of_ble_eq_true rfl⟩ ⟨Nat.le_of_ble_eq_true rfl, Nat.le_of_ble_eq_true rfl⟩ rfl rfl (Nat.le_of_ble_eq_true rfl)  ?_
    refine ev_if_ge 146 hC d_Mod_river_139 rfl (fun h_139 => ?_) (fun h_139 => ?_)
    · refine ev_iconst (v := 1) rfl hC d_Mod_river_146 ?_
      refine ev_iadd hC d_Mod_river_147 ?_
      try rw [nI_1]
      refine ev_istore_n (by decide) hC d_Mod_river_148 ?_
      refine ev_iinc rfl (by decide) (nI_1 _) hC d_Mod_river_149 ?_
      refine ev_goto 123 hC d_Mod_river_152 rfl ?_
      refine ih (i + 1) _ (by omega) ⟨hc.1, hc.2.1, ?_⟩ ?_
      · simp only [mI, wr_s]; rw [hc.2.1]; exact hc.2.2.2
      · rw [he.1, he.2, rp]; simp only [mI, wr_s, wr_wr]; rw [hc.2.1]; constructor <;> first | rfl | trivial
    · refine ev_iconst (v := 0) rfl hC d_Mod_river_142 ?_
      refine ev_goto 147 hC d_Mod_river_143 rfl ?_
      refine ev_iadd hC d_Mod_river_147 ?_
      try rw [nI_1]
      refine ev_istore_n (by decide) hC d_Mod_river_148 ?_
      refine ev_iinc rfl (by decide) (nI_1 _) hC d_Mod_river_149 ?_
      refine ev_goto 123 hC d_Mod_river_152 rfl ?_
      exact absurd (soV_0 (by rw [hc.2.1]; exact hc.2.2.1)) h_139

theorem J3_k {M : ex_M} {j : Nat} (h : j ≠ 3) : (mJ M 14 3 0).1 14 j = M.1 14 j := by simp only [mJ, wr_s]; exact ud_n h
theorem J3_r {M : ex_M} {q : Nat} (h : q ≠ 14) : (mJ M 14 3 0).1 q = M.1 q := by simp only [mJ]; exact wr_n h
set_option maxHeartbeats 4000000 in
set_option maxRecDepth 10000 in
theorem rv_100 {G : ex_G} {C : ex_C} {rr : Option Value} {ee : List va_E} {K : ex_M} {kk : Nat} (hk : kk ≤ 120) (h9 : K.1 14 9 = nI kk) (hap : K.1 14 8 = 0 → okL (K.1 16) kk 0 (K.1 10)) (he0 : K.1 14 8 = 0 → rr = some (.int (nI kk)) ∧ ee = ce G (mI (mJ K 14 3 0) 10 (rp (apI (K.1 16)) kk 0 (K.1 10)))) (he1 : ¬ K.1 14 8 = 0 → rr = some (.int (-1 - K.1 14 4)) ∧ ee = ce G (mJ K 14 3 0)) (hC : Cx G C Y_Mod_river { frames := 7, cells := 0, slots := 0, locals := 154 }) (hR : Cr G C Y_Mod_river 0 0 rr ee) : Ev G C Y_Mod_river 100 [some (.ref (ex_b G + 71))] [] 0 0 (ce G K) := by
  refine ev_aload_n rfl hC d_Mod_river_100 ?_
  refine ev_iconst (v := 0) rfl hC d_Mod_river_101 ?_
  refine pv_Mod_taped hC d_Mod_river_102 fl_Mod_222  ?_
  refine ev_aload_n rfl hC d_Mod_river_105 ?_
  refine gv_Mod_isWrong hC d_Mod_river_106 fl_Mod_247  ?_
  rw [J3_k (by decide)]
  refine ev_if_eq 119 hC d_Mod_river_109 rfl (fun h_109 => ?_) (fun h_109 => ?_)
  · refine ev_iconst (v := nI 0) rfl hC d_Mod_river_119 ?_
    refine ev_istore_n (by decide) hC d_Mod_river_120 ?_
    refine ev_iconst (v := nI 0) rfl hC d_Mod_river_121 ?_
    refine ev_istore_n (by decide) hC d_Mod_river_122 ?_
    refine lp_so (it := K.1 16) (n := kk) hk hC hR kk 0 _ (by omega) ⟨by rw [J3_k (by decide)]; exact h9, J3_r (by decide), by rw [J3_r (by decide)]; exact hap h_109⟩ ?_
    rw [J3_r (by decide)]
    exact he0 h_109
  · refine ev_iconst (v := -1) rfl hC d_Mod_river_112 ?_
    refine ev_aload_n rfl hC d_Mod_river_113 ?_
    refine gv_Mod_begins hC d_Mod_river_114 fl_Mod_228  ?_
    rw [J3_k (by decide)]
    refine ev_isub hC d_Mod_river_117 ?_
    exact ev_iret hC hR d_Mod_river_118 rfl (he1 h_109).1 (he1 h_109).2

set_option maxHeartbeats 2000000 in
set_option maxRecDepth 10000 in
theorem c_Mod_river {G : ex_G} {M : ex_M} {l : Nat} (hl : l ≤ 120) (e : M.1 14 3 = nI l) (hy : ∀ j, j < l → ¬ M.1 15 j < 0) (hap : (rvE M l).1 14 8 = 0 → okL ((rvE M l).1 16) (ix ((rvE M l).1 14 9)) 0 ((rvE M l).1 10)) : Con G Y_Mod_river 7 154 0 0 [.ref (ex_b G + 71)] (ce G M) (some (.int (R_river M l).1)) (ce G ((R_river M l).2)) := by
  refine Con.ofF (plainFor_of_name (by decide +kernel)) (Nat.le_of_ble_eq_true rfl) (fun C hC hR => ?_)
  show Ev G C Y_Mod_river 0 [some (.ref (ex_b G + 71))] [] 0 0 (ce G M)
  have s0 := RS_rv0 hl e hy
  have s1 := Lat_rdI (n := 0) (by omega) s0
  have i1 : (rv1 M l).1 14 8 = 0 → 2 * 1 ≤ ps (rv1 M l) + 1 := fun z => by have := s1.2 z; show 2 * 1 ≤ ps (rdI (nxC (rv0 M) l 0)) + 1; omega
  obtain ⟨kk, hk, s2⟩ := RS_rvL 121 1 (rv1 M l) s1.1 i1
  have s2 := s2 (by omega)
  have key : ∀ K : ex_M, rvE M l = mJ K 14 3 0 → K.1 14 9 = nI kk → Ev G C Y_Mod_river 100 [some (.ref (ex_b G + 71))] [] 0 0 (ce G K) := fun K hE h9 => by
    have q8 : (rvE M l).1 14 8 = K.1 14 8 := by rw [hE, J3_k (by decide)]
    have q9 : ix ((rvE M l).1 14 9) = kk := by rw [hE, J3_k (by decide), h9]; exact nI_clamp (by omega)
    have q9' : (rvE M l).1 14 9 = nI kk := by rw [hE, J3_k (by decide), h9]
    have q16 : (rvE M l).1 16 = K.1 16 := by rw [hE, J3_r (by decide)]
    have q10 : (rvE M l).1 10 = K.1 10 := by rw [hE, J3_r (by decide)]
    have q4 : (rvE M l).1 14 4 = K.1 14 4 := by rw [hE, J3_k (by decide)]
    rw [q8, q9, q16, q10] at hap
    refine rv_100 hk h9 hap (fun z => ?_) (fun z => ?_) hC hR
    · rw [R_river, if_pos (by rw [q8]; exact z), q9, q9', q16, q10, hE]
      exact ⟨rfl, rfl⟩
    · rw [R_river, if_neg (by rw [q8]; exact z), q4, hE]
      exact ⟨rfl, rfl⟩
  clear hap
  generalize hW : (R_river M l).1 = W1 at hR
  generalize hW2 : (R_river M l).2 = W2 at hR
  refine ev_aload_n rfl hC d_Mod_river_0 ?_
  refine ev_iconst (v := 0) rfl hC d_Mod_river_1 ?_
  refine pv_Mod_ends hC d_Mod_river_2 fl_Mod_225  ?_
  refine ev_aload_n rfl hC d_Mod_river_5 ?_
  refine ev_iconst (v := 0) rfl hC d_Mod_river_6 ?_
  refine pv_Mod_isWrong (by first | exact Or.inl rfl | exact Or.inr rfl | exact bi_or _ | assumption) hC d_Mod_river_7 fl_Mod_247  ?_
  refine ev_aload_n rfl hC d_Mod_river_10 ?_
  refine ev_iconst (v := 0) rfl hC d_Mod_river_11 ?_
  refine pv_Mod_itemMany hC d_Mod_river_12 fl_Mod_258  ?_
  refine ev_aload_n rfl hC d_Mod_river_15 ?_
  refine ev_aload_n rfl hC d_Mod_river_16 ?_
  refine gv_Mod_now hC d_Mod_river_17 fl_Mod_9  ?_
  refine ev_iconst (v := nI 3) rfl hC d_Mod_river_20 ?_
  refine ga_now hC d_Mod_river_21 (by first | assumption | omega) ?_
  refine pv_Mod_oneThen hC d_Mod_river_22 fl_Mod_268  ?_
  refine ev_aload_n rfl hC d_Mod_river_25 ?_
  refine ev_aload_n rfl hC d_Mod_river_26 ?_
  refine gv_Mod_now hC d_Mod_river_27 fl_Mod_9  ?_
  refine ev_iconst (v := nI 2) rfl hC d_Mod_river_30 ?_
  refine ga_now hC d_Mod_river_31 (by first | assumption | omega) ?_
  refine pv_Mod_eventThen hC d_Mod_river_32 fl_Mod_290  ?_
  refine ev_aload_n rfl hC d_Mod_river_35 ?_
  refine cv_Mod0 hC d_Mod_river_36 (c_Mod_next (l := l) (b := 0) hl (Nat.zero_le _) e rfl hy) mi_Mod_next ml_Mod_251 im_Mod_next se_Mod_next rfl ⟨Nat.le_of_ble_eq_true rfl, Nat.le_of_ble_eq_true rfl⟩ ⟨Nat.le_of_ble_eq_true rfl, Nat.le_of_ble_eq_true rfl⟩ rfl rfl (Nat.le_of_ble_eq_true rfl)  ?_
  refine ev_aload_n rfl hC d_Mod_river_39 ?_
  refine cv_Mod0 hC d_Mod_river_40 (c_Mod_readItem (n := 0) (by omega) s0) mi_Mod_readItem ml_Mod_299 im_Mod_readItem se_Mod_readItem rfl ⟨Nat.le_of_ble_eq_true rfl, Nat.le_of_ble_eq_true rfl⟩ ⟨Nat.le_of_ble_eq_true rfl, Nat.le_of_ble_eq_true rfl⟩ rfl rfl (Nat.le_of_ble_eq_true rfl)  ?_
  refine lp_river hC 121 1 (rv1 M l) s1.1 i1 (fun _ => by omega) ?_
  have hE : rvE M l = mJ (mstR (rvL 121 (rv1 M l)) (decide ((rvL 121 (rv1 M l)).1 14 6 = 0))) 14 3 0 := rfl
  generalize rvL 121 (rv1 M l) = N at s2 hE ⊢
  refine ev_aload_n rfl hC d_Mod_river_84 ?_
  refine ev_aload_n rfl hC d_Mod_river_85 ?_
  refine gv_Mod_sort hC d_Mod_river_86 fl_Mod_237  ?_
  refine ev_if_ne 96 hC d_Mod_river_89 rfl (fun h_89 => ?_) (fun h_89 => ?_)
  · refine ev_iconst (v := 0) rfl hC d_Mod_river_96 ?_
    refine cv_Mod0 hC d_Mod_river_97 (c_Mod_must (b := false) s2.1) mi_Mod_must ml_Mod_254 im_Mod_must se_Mod_must rfl ⟨Nat.le_of_ble_eq_true rfl, Nat.le_of_ble_eq_true rfl⟩ ⟨Nat.le_of_ble_eq_true rfl, Nat.le_of_ble_eq_true rfl⟩ rfl rfl (Nat.le_of_ble_eq_true rfl)  ?_
    rw [decide_eq_false h_89] at hE
    exact key _ hE (RS_mst s2).2.2
  · refine ev_iconst (v := 1) rfl hC d_Mod_river_92 ?_
    refine ev_goto 97 hC d_Mod_river_93 rfl ?_
    refine cv_Mod0 hC d_Mod_river_97 (c_Mod_must (b := true) s2.1) mi_Mod_must ml_Mod_254 im_Mod_must se_Mod_must rfl ⟨Nat.le_of_ble_eq_true rfl, Nat.le_of_ble_eq_true rfl⟩ ⟨Nat.le_of_ble_eq_true rfl, Nat.le_of_ble_eq_true rfl⟩ rfl rfl (Nat.le_of_ble_eq_true rfl)  ?_
    rw [decide_eq_true h_89] at hE
    exact key _ hE (RS_mst s2).2.2
