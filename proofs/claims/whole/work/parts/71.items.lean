/-! the text's items, on both sides -/
def FrT (B C : ex_M) : Prop := C.1 16 = B.1 16 ∧ (∀ k, 8 < k → C.1 14 k = B.1 14 k) ∧ C.1 10 = B.1 10
theorem FrT.rf {B : ex_M} : FrT B B := ⟨rfl, fun _ _ => rfl, rfl⟩
theorem FrT.tr {B C D : ex_M} (h : FrT B C) (k : FrT C D) : FrT B D := ⟨k.1.trans h.1, fun j hj => (k.2.1 j hj).trans (h.2.1 j hj), k.2.2.trans h.2.2⟩
theorem FrT_nxt {B : ex_M} : FrT B (nxt B) := ⟨nxt_r B (by decide), fun k hk => nxt_k B (by omega), nxt_r B (by decide)⟩
theorem FrT_isN {B : ex_M} {w : Nat} : FrT B (isNxR B w).2 := by
  unfold isNxR
  cases (decide (B.1 14 8 = 0) && isWR B w) with
  | true => exact FrT_nxt
  | false => exact FrT.rf
theorem it5_lo {f : Nat → Int32} {n j : Nat} {x a b c d : Int32} (h : j < 5 * n) : it5 f n x a b c d j = f j := by
  unfold it5; rw [ud_n (by omega), ud_n (by omega), ud_n (by omega), ud_n (by omega), ud_n (by omega)]
theorem it5_0 {f : Nat → Int32} {n : Nat} {x a b c d : Int32} : it5 f n x a b c d (5 * n) = x := by
  unfold it5; rw [ud_n (by omega), ud_n (by omega), ud_n (by omega), ud_n (by omega), ud_s]
theorem it5_1 {f : Nat → Int32} {n : Nat} {x a b c d : Int32} : it5 f n x a b c d (5 * n + 1) = a := by
  unfold it5; rw [ud_n (by omega), ud_n (by omega), ud_n (by omega), ud_s]
theorem it5_2 {f : Nat → Int32} {n : Nat} {x a b c d : Int32} : it5 f n x a b c d (5 * n + 2) = b := by
  unfold it5; rw [ud_n (by omega), ud_n (by omega), ud_s]
theorem it5_3 {f : Nat → Int32} {n : Nat} {x a b c d : Int32} : it5 f n x a b c d (5 * n + 3) = c := by
  unfold it5; rw [ud_n (by omega), ud_s]
theorem it5_4 {f : Nat → Int32} {n : Nat} {x a b c d : Int32} : it5 f n x a b c d (5 * n + 4) = d := by
  unfold it5; rw [ud_s]
theorem apI_ext {it it2 : Nat → Int32} {k : Nat} (h : ∀ j, j < 5 * k + 5 → it2 j = it j) : apI it2 k = apI it k := by
  funext a
  unfold apI
  rw [h _ (by omega), h _ (by omega), h _ (by omega), h _ (by omega), h _ (by omega)]
theorem okI_ext {it it2 : Nat → Int32} {k : Nat} {a : Nat → Int32} (h : ∀ j, j < 5 * k + 5 → it2 j = it j) : okI it2 k a ↔ okI it k a := by
  unfold okI
  rw [h _ (by omega)]
theorem okL_ext {it it2 : Nat → Int32} : ∀ m k a, (∀ j, j < 5 * (k + m) → it2 j = it j) → (okL it2 m k a ↔ okL it m k a)
  | 0, _, _, _ => Iff.rfl
  | m + 1, k, a, h => by
    rw [okL, okL, okI_ext (fun j hj => h j (by omega)), apI_ext (fun j hj => h j (by omega)), okL_ext m (k + 1) _ (fun j hj => h j (by omega))]
theorem okL_snoc {it : Nat → Int32} : ∀ m k a, okL it m k a → okI it (k + m) (rp (apI it) m k a) → okL it (m + 1) k a
  | 0, _, _, _, h => ⟨h, trivial⟩
  | m + 1, k, a, h, h2 => by
    rw [okL] at h
    rw [okL]
    refine ⟨h.1, okL_snoc m (k + 1) _ h.2 ?_⟩
    rw [show k + 1 + m = k + (m + 1) by omega]
    exact h2
def RI (A B : ex_M) (n : Nat) : Prop := B.1 14 9 = nI n ∧ B.1 14 10 = A.1 1 3 ∧ B.1 14 11 = A.1 1 2 ∧ (∃ np ne, RA (A.1 1) (rp (apI (B.1 16)) n 0 (B.1 10)) np ne) ∧ okL (B.1 16) n 0 (B.1 10)
def TS (A B : ex_M) (n : Nat) : Prop := TK A B ∧ B.1 14 8 = 0 ∧ RI A B n
/-- one item more -/
theorem RI_push {A A2 B : ex_M} {n np ne : Nat} {x a b c d : Int32} (hn : n < 120) (h9 : B.1 14 9 = nI n) (hok : okL (B.1 16) n 0 (B.1 10)) (h10 : B.1 14 10 = A2.1 1 3) (h11 : B.1 14 11 = A2.1 1 2) (hi : okI (it5 (B.1 16) n x a b c d) n (rp (apI (B.1 16)) n 0 (B.1 10))) (ra : RA (A2.1 1) (apI (it5 (B.1 16) n x a b c d) n (rp (apI (B.1 16)) n 0 (B.1 10))) np ne) : RI A2 (itmR B x a b c d) (n + 1) := by
  have cn : ix (nI n) = n := nI_clamp (by omega)
  have e16 : (itmR B x a b c d).1 16 = it5 (B.1 16) n x a b c d := by
    show it5 (B.1 16) (ix (B.1 14 9)) x a b c d = _
    rw [h9, cn]
  have e9 : (itmR B x a b c d).1 14 9 = nI (n + 1) := by
    show nI (ix (B.1 14 9) + 1) = _
    rw [h9, cn]
  have e10 : (itmR B x a b c d).1 10 = B.1 10 := rfl
  have er : rp (apI (it5 (B.1 16) n x a b c d)) n 0 (B.1 10) = rp (apI (B.1 16)) n 0 (B.1 10) := rp_shift n 0 0 _ (fun k hk => apI_ext (fun j hj => it5_lo (by omega)))
  refine ⟨e9, h10, h11, ⟨np, ne, ?_⟩, ?_⟩
  · rw [e16, e10, rp_add n 1 0, er, Nat.zero_add]
    exact ra
  · rw [e16, e10]
    refine okL_snoc n 0 _ ((okL_ext n 0 _ (fun j hj => it5_lo (by omega))).mpr hok) ?_
    rw [er, Nat.zero_add]
    exact hi
theorem ap_ev {f R : Nat → Int32} {n : Nat} {h w c d : Int32} : apI (it5 f n 10 h w c d) n R = upd (eBeg R (ix (R 2)) h w) 2 (nI (ix (R 2) + 1)) := by
  unfold apI; rw [it5_0, if_pos rfl, it5_1, it5_2]
theorem ap_to {f R : Nat → Int32} {n : Nat} {v b c d : Int32} : apI (it5 f n 11 v b c d) n R = upd R 1 v := by
  unfold apI; rw [it5_0, if_neg (by decide), if_pos rfl, it5_1]
theorem k_ne {k : Nat} (hk : k < 6) : ¬ nI k = 10 ∧ ¬ nI k = 11 := by
  rcases (by omega : k = 0 ∨ k = 1 ∨ k = 2 ∨ k = 3 ∨ k = 4 ∨ k = 5) with e | e | e | e | e | e <;> subst e <;> decide
theorem ap_on {f R : Nat → Int32} {n k : Nat} {a b c d : Int32} (hk : k < 6) : apI (it5 f n (nI k) a b c d) n R = upd (oCom R (ix (R 3)) (nI k) a b c d) 3 (nI (ix (R 3) + 1)) := by
  unfold apI; rw [it5_0, if_neg (k_ne hk).1, if_neg (k_ne hk).2, it5_1, it5_2, it5_3, it5_4]
theorem tkW_t {A : ex_M} {w : Nat} (h : isWC A w = true) : tkW A w = (true, stp A) := by unfold tkW; rw [h, cond_true]
theorem tkW_f {A : ex_M} {w : Nat} (h : isWC A w = false) : tkW A w = (false, A) := by unfold tkW; rw [h, cond_false]
theorem I_toll {A B : ex_M} {n : Nat} (hn : n < 120) (h : TS A B n) (hw : isWC A 13 = true) : ((P_toll (stp A)).1 = true ∧ TS (P_toll (stp A)).2 (rTo B) (n + 1)) ∨ ((P_toll (stp A)).1 = false ∧ Wr ((P_toll (stp A)).2.1 3 5) (rTo B)) := by
  obtain ⟨tk, h8, ⟨h9, h10, h11, ⟨np, ne, ra⟩, hok⟩⟩ := h
  unfold P_toll rTo
  rw [isW_eq tk, hw, mst_t h8]
  rcases TK_tkN (mx := 99) (TK_stp tk) (nxt_8 h8) with ⟨t1, t2, t3, t4, t5, t6, t7⟩ | ⟨t1, t2⟩
  · left
    rw [t1, cond_true]
    refine ⟨rfl, t2, t3, ?_⟩
    have ft : FrT B (numR (nxt B) 99).2 := by rw [t7]; exact FrT_nxt.tr FrT_nxt
    have eA : (tkN (stp A) 99).2.1 1 = A.1 1 := by rw [tkN_1 _ _ (by decide), stp_1 _ (by decide)]
    generalize hv : (numR (nxt B) 99).1 = v at t4 t5 t6
    generalize hB2 : (numR (nxt B) 99).2 = B2 at t2 t3 ft
    generalize hA2 : (tkN (stp A) 99).2 = A2 at t2 t4 eA
    have er : (mJ A2 1 1 (A2.1 3 8)).1 1 = upd (A.1 1) 1 v := by simp only [mJ, wr_s]; rw [eA, t4]
    refine RI_push (np := np) (ne := ne) (A := A) hn ((ft.2.1 9 (by omega)).trans h9) (by rw [ft.1, ft.2.2]; exact hok) ?_ ?_ ?_ ?_
    · rw [er, ud_n (by decide), ft.2.1 10 (by omega)]; exact h10
    · rw [er, ud_n (by decide), ft.2.1 11 (by omega)]; exact h11
    · rw [ft.1, ft.2.2]
      refine ⟨fun z => ?_, fun _ => ?_, fun _ z => ?_⟩
      · rw [it5_0] at z; exact absurd z (by decide)
      · rw [RA_n ra (by omega)]; exact ra.1.1.2.1.1
      · rw [it5_0] at z; exact absurd rfl z
    · rw [er, ft.1, ft.2.2, ap_to]
      exact RA_0 ra (by omega) (WB_1 ra.1.1 ⟨t5, t6⟩)
  · right
    rw [t1, cond_false]
    exact ⟨rfl, Wr_itm t2⟩
theorem neg_rg {v : Int32} (h1 : 0 ≤ v) (h2 : v ≤ 99) (le : Bool) : -99 ≤ (bif le then -v else v) ∧ (bif le then -v else v) ≤ 99 := by
  obtain ⟨j, hj, rfl⟩ := rg_nat (n := 99) rfl (by omega) h1 h2
  have key : ∀ j, j ≤ 99 → ∀ le : Bool, -99 ≤ (bif le then -(nI j) else nI j) ∧ (bif le then -(nI j) else nI j) ≤ 99 := by decide +kernel
  exact key j hj le
theorem I_event {A B : ex_M} {n : Nat} (hn : n < 120) (h : TS A B n) (hw : isWC A 10 = true) : ((P_event A).1 = true ∧ TS (P_event A).2 (rEv B) (n + 1)) ∨ ((P_event A).1 = false ∧ Wr ((P_event A).2.1 3 5) (rEv B)) := by
  obtain ⟨tk, h8, ⟨h9, h10, h11, ⟨np, ne, ra⟩, hok⟩⟩ := h
  have hp := TK_plc tk
  have hne := ra.1.1.1.2.2.2.1
  have e2 : A.1 1 2 = nI ne := ra.1.1.1.2.2.1
  unfold P_event rEv
  rw [h11]
  by_cases hc : A.1 1 2 < 8
  · rw [decide_eq_true hc, Bool.not_true, cond_false, mst_t h8]
    have h8n : ne < 8 := by rw [e2] at hc; exact (lt8_iff hne).1.mp hc
    have i1 : TK (stp A) (inc (nxt B) 11) := TK_inc (by omega) (TK_stp tk)
    have i2 : (inc (nxt B) 11).1 14 8 = 0 := nxt_8 h8
    have f0 : FrT B (nxt B) := FrT_nxt
    have i9 : (inc (nxt B) 11).1 14 9 = nI n := (f0.2.1 9 (by omega)).trans h9
    have i10 : (inc (nxt B) 11).1 14 10 = A.1 1 3 := (f0.2.1 10 (by omega)).trans h10
    have i11 : (inc (nxt B) 11).1 14 11 = A.1 1 2 + 1 := by
      show (nxt B).1 14 11 + 1 = _
      rw [f0.2.1 11 (by omega), h11]
    have i16 : (inc (nxt B) 11).1 16 = B.1 16 := f0.1
    have iR : (inc (nxt B) 11).1 10 = B.1 10 := f0.2.2
    have iA : (stp A).1 1 = A.1 1 := stp_1 _ (by decide)
    generalize stp A = A1 at i1 iA
    generalize inc (nxt B) 11 = B1 at i1 i2 i9 i10 i11 i16 iR
    rcases TK_tkN (mx := 9999) i1 i2 with ⟨t1, t2, t3, t4, t5, t6, t7⟩ | ⟨t1, t2⟩
    · have f1 : FrT B1 (numR B1 9999).2 := by rw [t7]; exact FrT_nxt
      have a1 : (tkN A1 9999).2.1 1 = A.1 1 := by rw [tkN_1 _ _ (by decide), iA]
      unfold pe0 re3
      rw [t1, cond_true]
      generalize (numR B1 9999).1 = hh at t4
      generalize (numR B1 9999).2 = B2 at t2 t3 f1
      generalize (tkN A1 9999).2 = A2 at t2 t4 a1
      rw [t4, isW_eq t2]
      unfold pe1
      cases hwd : isWC A2 11 with
      | false =>
        right
        rw [tkW_f hwd, show (bif (false, A2).1 then pe2 hh (tkW (false, A2).2 12) else (false, (false, A2).2)) = (false, A2) from rfl]
        refine ⟨rfl, Wr_itm (Wr_num (Wr_isN2 (Wr_f (TK_plc t2))))⟩
      | true =>
        rw [tkW_t hwd, mst_t t3, show (bif (true, stp A2).1 then pe2 hh (tkW (true, stp A2).2 12) else (false, (true, stp A2).2)) = pe2 hh (tkW (stp A2) 12) from rfl]
        unfold re4 pe2
        have t2' := TK_stp t2
        have t3' := nxt_8 t3
        have f2 : FrT B1 (nxt B2) := f1.tr FrT_nxt
        have a2 : (stp A2).1 1 = A.1 1 := by rw [stp_1 _ (by decide), a1]
        generalize stp A2 = A3 at t2' a2
        generalize nxt B2 = B3 at t2' t3' f2
        obtain ⟨w1, w2, w3⟩ := TK_tkW (w := 12) t2' t3'
        have f3 : FrT B1 (isNxR B3 12).2 := f2.tr FrT_isN
        have a3 : (tkW A3 12).2.1 1 = A.1 1 := by rw [tkW_1 _ _ (by decide), a2]
        rw [w1]
        generalize (tkW A3 12).1 = le
        generalize (isNxR B3 12).2 = B4 at w2 w3 f3
        generalize (tkW A3 12).2 = A4 at w2 a3
        unfold pe3 re5
        rcases TK_tkN (mx := 99) w2 w3 with ⟨u1, u2, u3, u4, u5, u6, u7⟩ | ⟨u1, u2⟩
        · left
          have f4 : FrT B1 (numR B4 99).2 := by rw [u7]; exact f3.tr FrT_nxt
          have a4 : (tkN A4 99).2.1 1 = A.1 1 := by rw [tkN_1 _ _ (by decide), a3]
          rw [u1, cond_true, u4]
          generalize (numR B4 99).1 = v at u5 u6
          generalize (numR B4 99).2 = B5 at u2 u3 f4
          generalize (tkN A4 99).2 = A5 at u2 a4
          have er : (adE A5 hh (bif le then -v else v)).1 1 = upd (eBeg (A.1 1) ne hh (bif le then -v else v)) 2 (nI (ne + 1)) := by
            unfold adE
            rw [mI_s, a4, e2, show ix (nI ne) = ne from nI_clamp (by omega)]
          refine ⟨rfl, u2, u3, ?_⟩
          have r2 : rp (apI (B.1 16)) n 0 (B.1 10) 2 = nI ne := (RA_n ra (by omega)).trans e2
          refine RI_push (np := np) (ne := ne + 1) (A := A) hn ((f4.2.1 9 (by omega)).trans i9) (by rw [f4.1, f4.2.2, i16, iR]; exact hok) ?_ ?_ ?_ ?_
          · rw [er, ud_n (by decide), eBeg_lo (by decide), f4.2.1 10 (by omega), i10]
          · rw [er, ud_s, f4.2.1 11 (by omega), i11, e2, nI_1]
          · rw [f4.1, f4.2.2, i16, iR]
            refine ⟨fun _ => ⟨ne, h8n, r2⟩, fun z => ?_, fun z _ => ?_⟩
            · rw [it5_0] at z; exact absurd z (by decide)
            · rw [it5_0] at z; exact absurd rfl z
          · rw [er, f4.1, f4.2.2, i16, iR, ap_ev, r2, show ix (nI ne) = ne from nI_clamp (by omega)]
            have g := neg_rg u5 u6 le
            exact RA_E ra h8n g.1 g.2
        · right
          rw [u1, cond_false]
          exact ⟨rfl, Wr_itm u2⟩
    · right
      unfold pe0
      rw [t1, cond_false]
      exact ⟨rfl, Wr_re3 t2⟩
  · right
    rw [decide_eq_false hc, Bool.not_false, cond_true]
    exact ⟨rfl, Wr_re3 (Wr_num (Wr_inc (by decide) (by decide) (Wr_f hp)))⟩
/-! one told -/
def pr (a : Nat → Int32) (m : Nat) (k b pu go co : Int32) : Nat → Int32 := upd (oCom a m k b pu go co) 3 (nI (m + 1))
theorem pr_at {a : Nat → Int32} {m j : Nat} {k b pu go co : Int32} : pr a m k b pu go co j = if j = 3 then nI (m + 1) else if 28 + 7 * m ≤ j ∧ j ≤ 28 + 7 * m + 6 then (if j = 28 + 7 * m + 0 then k else if j = 28 + 7 * m + 1 then b else if j = 28 + 7 * m + 2 then pu else if j = 28 + 7 * m + 3 then go else if j = 28 + 7 * m + 4 then co else 0) else a j := by
  unfold pr
  by_cases h3 : j = 3
  · rw [if_pos h3, h3, ud_s]
  · rw [if_neg h3, ud_n h3]
    by_cases hr : 28 + 7 * m ≤ j ∧ j ≤ 28 + 7 * m + 6
    · rw [if_pos hr]
      obtain ⟨f, hf, rfl⟩ : ∃ f, f < 7 ∧ j = 28 + 7 * m + f := ⟨j - (28 + 7 * m), by omega, by omega⟩
      rw [oCom_at hf]
      rcases (by omega : f = 0 ∨ f = 1 ∨ f = 2 ∨ f = 3 ∨ f = 4 ∨ f = 5 ∨ f = 6) with e | e | e | e | e | e | e <;> subst e <;> simp
    · rw [if_neg hr, oCom_ne (by omega)]
theorem pr_u {a : Nat → Int32} {m f : Nat} {k b pu go co v : Int32} (hf : f = 2 ∨ f = 3 ∨ f = 4) : upd (pr a m k b pu go co) (28 + 7 * m + f) v = pr a m k b (if f = 2 then v else pu) (if f = 3 then v else go) (if f = 4 then v else co) := by
  funext j
  by_cases e : j = 28 + 7 * m + f
  · rw [e, ud_s, pr_at, if_neg (by omega), if_pos (by omega)]
    rcases hf with z | z | z <;> subst z <;> simp
  · rw [ud_n e, pr_at, pr_at]
    by_cases h3 : j = 3
    · rw [if_pos h3, if_pos h3]
    · rw [if_neg h3, if_neg h3]
      by_cases hr : 28 + 7 * m ≤ j ∧ j ≤ 28 + 7 * m + 6
      · rw [if_pos hr, if_pos hr]
        rcases hf with z | z | z <;> subst z
        · rw [if_neg (show ¬ j = 28 + 7 * m + 2 from e), if_neg (show ¬ j = 28 + 7 * m + 2 from e)]; rfl
        · rw [if_neg (show ¬ j = 28 + 7 * m + 3 from e), if_neg (show ¬ j = 28 + 7 * m + 3 from e)]; rfl
        · rw [if_neg (show ¬ j = 28 + 7 * m + 4 from e), if_neg (show ¬ j = 28 + 7 * m + 4 from e)]; rfl
      · rw [if_neg hr, if_neg hr]
theorem I_po {A B : ex_M} {w f m : Nat} {mx d : Int32} (h : TK A B) (h8 : B.1 14 8 = 0) : ((po w mx f m A).1 = true ∧ TK (po w mx f m A).2 (optR B w mx d).2 ∧ (optR B w mx d).2.1 14 8 = 0 ∧ FrT B (optR B w mx d).2 ∧ (((po w mx f m A).2.1 1 = A.1 1 ∧ (optR B w mx d).1 = d) ∨ ((po w mx f m A).2.1 1 = upd (A.1 1) (28 + 7 * m + f) (optR B w mx d).1 ∧ 0 ≤ (optR B w mx d).1 ∧ (optR B w mx d).1 ≤ mx))) ∨ ((po w mx f m A).1 = false ∧ Wr ((po w mx f m A).2.1 3 5) (optR B w mx d).2) := by
  obtain ⟨w1, w2, w3⟩ := TK_tkW (w := w) h h8
  have a1 : (tkW A w).2.1 1 = A.1 1 := tkW_1 _ _ (by decide)
  have f1 : FrT B (isNxR B w).2 := FrT_isN
  unfold po optR
  rw [w1]
  generalize (isNxR B w).2 = B1 at w2 w3 f1
  generalize (tkW A w).2 = A1 at w2 a1
  cases (tkW A w).1 with
  | false =>
    left
    rw [cond_false, cond_false]
    exact ⟨rfl, w2, w3, f1, Or.inl ⟨a1, rfl⟩⟩
  | true =>
    rw [cond_true, cond_true]
    rcases TK_tkN (mx := mx) w2 w3 with ⟨u1, u2, u3, u4, u5, u6, u7⟩ | ⟨u1, u2⟩
    · left
      rw [u1, cond_true]
      refine ⟨rfl, u2, u3, by rw [u7]; exact f1.tr FrT_nxt, Or.inr ⟨?_, u5, u6⟩⟩
      simp only [mJ, wr_s]
      rw [tkN_1 _ _ (by decide), a1, u4]
    · right
      rw [u1, cond_false]
      exact ⟨rfl, u2⟩
theorem I_one {A B : ex_M} {n k : Nat} (hn : n < 120) (hk : k < 6) (h : TS A B n) (hw : isWC A k = true) : ((P_one A (nI k)).1 = true ∧ TS (P_one A (nI k)).2 (rOne B (nI k)) (n + 1)) ∨ ((P_one A (nI k)).1 = false ∧ Wr ((P_one A (nI k)).2.1 3 5) (rOne B (nI k))) := by
  obtain ⟨tk, h8, ⟨h9, h10, h11, ⟨np, ne, ra⟩, hok⟩⟩ := h
  have hp := TK_plc tk
  have hnp := ra.1.1.1.2.1
  have e3 : A.1 1 3 = nI np := ra.1.1.1.1
  unfold P_one rOne
  rw [h10]
  by_cases hc : A.1 1 3 < 8
  · rw [decide_eq_true hc, Bool.not_true, cond_false, mst_t h8]
    have h8n : np < 8 := by rw [e3] at hc; exact (lt8_iff hnp).1.mp hc
    have i1 : TK (stp A) (inc (nxt B) 10) := TK_inc (by omega) (TK_stp tk)
    have i2 : (inc (nxt B) 10).1 14 8 = 0 := nxt_8 h8
    have f0 : FrT B (nxt B) := FrT_nxt
    have i9 : (inc (nxt B) 10).1 14 9 = nI n := (f0.2.1 9 (by omega)).trans h9
    have i11 : (inc (nxt B) 10).1 14 11 = A.1 1 2 := (f0.2.1 11 (by omega)).trans h11
    have i10 : (inc (nxt B) 10).1 14 10 = A.1 1 3 + 1 := by
      show (nxt B).1 14 10 + 1 = _
      rw [f0.2.1 10 (by omega), h10]
    have i16 : (inc (nxt B) 10).1 16 = B.1 16 := f0.1
    have iR : (inc (nxt B) 10).1 10 = B.1 10 := f0.2.2
    have iA : (stp A).1 1 = A.1 1 := stp_1 _ (by decide)
    rw [e3, show ix (nI np) = np from nI_clamp (by omega)]
    generalize stp A = A1 at i1 iA
    generalize inc (nxt B) 10 = B1 at i1 i2 i9 i10 i11 i16 iR
    unfold r1A
    obtain ⟨w1, w2, w3⟩ := TK_tkW (w := 6) i1 i2
    have f1 : FrT B1 (isNxR B1 6).2 := FrT_isN
    have a1 : (tkW A1 6).2.1 1 = A.1 1 := by rw [tkW_1 _ _ (by decide), iA]
    rw [w1]
    generalize (tkW A1 6).1 = lf
    generalize (isNxR B1 6).2 = B2 at w2 w3 f1
    generalize (tkW A1 6).2 = A2 at w2 a1
    have hb : (bif lf then (1 : Int32) else 0) = 0 ∨ (bif lf then (1 : Int32) else 0) = 1 := by cases lf <;> decide
    generalize (bif lf then (1 : Int32) else 0) = bk at hb
    have e0 : (adO A2 (nI k) bk).1 1 = pr (A.1 1) np (nI k) bk 50 (-1) (-1) := by
      unfold adO
      rw [mI_s, a1, e3, show ix (nI np) = np from nI_clamp (by omega)]; rfl
    have tA : TK (adO A2 (nI k) bk) B2 := TK_1 w2
    generalize adO A2 (nI k) bk = A3 at e0 tA
    unfold po0 r1B
    rcases I_po (w := 7) (f := 2) (m := np) (mx := 9999) (d := 50) tA w3 with ⟨u1, u2, u3, u4, u5⟩ | ⟨u1, u2⟩
    · -- purse
      have hpu : (po 7 9999 2 np A3).2.1 1 = pr (A.1 1) np (nI k) bk (optR B2 7 9999 50).1 (-1) (-1) ∧ 0 ≤ (optR B2 7 9999 50).1 ∧ (optR B2 7 9999 50).1 ≤ 9999 := by
        rcases u5 with ⟨q1, q2⟩ | ⟨q1, q2, q3⟩
        · rw [q1, q2, e0]; exact ⟨rfl, by decide, by decide⟩
        · rw [q1, e0, pr_u (Or.inl rfl)]; exact ⟨rfl, q2, q3⟩
      have f2 := f1.tr u4
      generalize (optR B2 7 9999 50).1 = pu at hpu
      generalize (optR B2 7 9999 50).2 = B3 at u2 u3 f2
      unfold po1 r1C
      rw [u1, cond_true]
      generalize (po 7 9999 2 np A3).2 = A4 at u2 hpu
      rcases I_po (w := 8) (f := 3) (m := np) (mx := 23) (d := -1) u2 u3 with ⟨v1, v2, v3, v4, v5⟩ | ⟨v1, v2⟩
      · have hgo : (po 8 23 3 np A4).2.1 1 = pr (A.1 1) np (nI k) bk pu (optR B3 8 23 (-1)).1 (-1) := by
          rcases v5 with ⟨q1, q2⟩ | ⟨q1, q2, q3⟩
          · rw [q1, q2, hpu.1]
          · rw [q1, hpu.1, pr_u (Or.inr (Or.inl rfl))]; rfl
        have f3 := f2.tr v4
        generalize (optR B3 8 23 (-1)).1 = go at hgo
        generalize (optR B3 8 23 (-1)).2 = B4 at v2 v3 f3
        unfold po2 r1D
        rw [v1, cond_true]
        generalize (po 8 23 3 np A4).2 = A5 at v2 hgo
        rcases I_po (w := 9) (f := 4) (m := np) (mx := 23) (d := -1) v2 v3 with ⟨x1, x2, x3, x4, x5⟩ | ⟨x1, x2⟩
        · left
          have hco : (po 9 23 4 np A5).2.1 1 = pr (A.1 1) np (nI k) bk pu go (optR B4 9 23 (-1)).1 := by
            rcases x5 with ⟨q1, q2⟩ | ⟨q1, q2, q3⟩
            · rw [q1, q2, hgo]
            · rw [q1, hgo, pr_u (Or.inr (Or.inr rfl))]; rfl
          have f4 := f3.tr x4
          generalize (optR B4 9 23 (-1)).1 = co at hco
          generalize (optR B4 9 23 (-1)).2 = B5 at x2 x3 f4
          refine ⟨x1, x2, x3, ?_⟩
          generalize (po 9 23 4 np A5).2 = A6 at hco
          have r3 : rp (apI (B.1 16)) n 0 (B.1 10) 3 = nI np := ra.2.trans e3
          have p3 : pr (A.1 1) np (nI k) bk pu go co 3 = nI (np + 1) := by rw [pr_at, if_pos rfl]
          have p2 : pr (A.1 1) np (nI k) bk pu go co 2 = A.1 1 2 := by rw [pr_at, if_neg (by decide), if_neg (by omega)]
          refine RI_push (np := np + 1) (ne := ne) (A := A) hn ((f4.2.1 9 (by omega)).trans i9) (by rw [f4.1, f4.2.2, i16, iR]; exact hok) ?_ ?_ ?_ ?_
          · rw [hco, p3, f4.2.1 10 (by omega), i10, e3, nI_1]
          · rw [hco, p2, f4.2.1 11 (by omega), i11]
          · rw [f4.1, f4.2.2, i16, iR]
            refine ⟨fun z => ?_, fun z => ?_, fun _ _ => ⟨np, h8n, r3⟩⟩
            · rw [it5_0] at z; exact absurd z (k_ne hk).1
            · rw [it5_0] at z; exact absurd z (k_ne hk).2
          · rw [hco, f4.1, f4.2.2, i16, iR, ap_on hk, r3, show ix (nI np) = np from nI_clamp (by omega)]
            exact RA_O ra h8n hk hb hpu.2
        · right
          exact ⟨x1, Wr_itm x2⟩
      · right
        unfold po2
        rw [v1, cond_false]
        exact ⟨v1, Wr_1D v2⟩
    · right
      unfold po1
      rw [u1, cond_false]
      exact ⟨u1, Wr_1C u2⟩
  · right
    rw [decide_eq_false hc, Bool.not_false, cond_true]
    exact ⟨rfl, Wr_1A (Wr_inc (by decide) (by decide) (Wr_f hp))⟩
