/-! sheets, on both sides -/
theorem fnd0_ne : ¬ fnd 0 = 0 := by decide +kernel
theorem fnd5_ne : ¬ fnd 5 = 0 := by decide +kernel
theorem fnd50 : ¬ fnd 5 = fnd 0 := by decide +kernel
theorem fo_cases (M : ex_M) (s : Int32) : (out s 0 3 = true ∧ fo M s = fnd 0) ∨ ∃ k, k < 4 ∧ s = nI k ∧ out s 0 3 = false ∧ ((M.1 6 (2 * k + 0) = 0 ∧ fo M s = fnd 5) ∨ (¬ M.1 6 (2 * k + 0) = 0 ∧ fo M s = 0)) := by
  unfold fo
  cases ho : out s 0 3 with
  | true => exact Or.inl ⟨rfl, rfl⟩
  | false =>
    obtain ⟨k, hk, rfl⟩ := out_nat (n := 3) (by decide) ho
    have ck : ix (nI k) = k := nI_clamp (by omega)
    refine Or.inr ⟨k, by omega, rfl, rfl, ?_⟩
    rw [cond_false, ck]
    by_cases h : M.1 6 (2 * k + 0) = 0
    · rw [if_pos h]; exact Or.inl ⟨h, rfl⟩
    · rw [if_neg h]; exact Or.inr ⟨h, rfl⟩
theorem foR_eq {M N : ex_M} {s : Int32} (h : RH M) (e : N.1 17 = M.1 17) : foR N s = fo M s := by
  unfold foR fo
  cases ho : out s 0 3 with
  | true => rfl
  | false =>
    obtain ⟨k, hk, rfl⟩ := out_nat (n := 3) (by decide) ho
    have ck : ix (nI k) = k := nI_clamp (by omega)
    rw [cond_false, cond_false, ck, e, (h k (by omega)).1]
theorem RH_bad {M : ex_M} {v : Int32} : (badv M v).2.1 17 = M.1 17 := by
  unfold badv
  split <;> rfl
theorem Eq2_fo {M : ex_M} {s : Int32} {r : ex_M → Int32 × ex_M} (h : Rel M) (hz : ¬ fo M s = 0) (q : ∀ N : ex_M, N.1 17 = M.1 17 → r N = (foR N s, (rbadv N (foR N s)).2)) : Eq2 (fo M s, (badv M (fo M s)).2) r := by
  have e := foR_eq (N := (badv M (fo M s)).2) (s := s) h.2.2.2.2.2 RH_bad
  refine Eq2_ok (N2 := (rbadv (badv M (fo M s)).2 (fo M s)).2) (by rw [q _ RH_bad, e]) ?_
  rcases fo_n hz with z | z
  · rw [z]
    unfold rbadv badv
    rw [if_pos rfl, if_pos rfl]
    exact (Rel_bad (by omega) h).2
  · rw [z]
    unfold rbadv badv
    rw [if_neg fnd50, if_neg fnd50]
    exact (Rel_bad (by omega) h).2
section Sheets
variable {M : ex_M} {np ne : Nat}
theorem E_sheet {s b n : Int32} (h : Rel M) : Eq2 (D_sheet M s b n) (fun N => R_sheet N s b n) := by
  unfold D_sheet
  cases ho : (out s 0 3 || !bitsOk b) with
  | true =>
    refine Eq2_bad h (by omega) ?_
    unfold R_sheet; rw [ho]; rfl
  | false =>
    rw [cond_false]
    by_cases h0 : 0 ≤ n
    · rw [if_pos h0]
      by_cases h4 : n ≤ 40
      · rw [if_pos h4]
        obtain ⟨o1, -⟩ := Bool.or_eq_false_iff.mp ho
        obtain ⟨k, hk, rfl⟩ := out_nat (n := 3) (by decide) o1
        have ck : ix (nI k) = k := nI_clamp (by omega)
        rw [ck]
        refine Eq2_ok (N2 := shBR (shBeg M k b n) k b n) ?_ ?_
        · unfold R_sheet
          rw [ho, cond_false, if_pos h0, if_pos h4, ck]
        · obtain ⟨l, hl, el⟩ : ∃ l, l ≤ 40 ∧ (if b = 0 then 0 else n) = nI l := by
            obtain ⟨j, hj, ej⟩ := rg_nat (n := 40) rfl (by omega) h0 h4
            by_cases hb : b = 0
            · rw [if_pos hb]; exact ⟨0, by omega, rfl⟩
            · rw [if_neg hb]; exact ⟨j, hj, ej⟩
          refine ⟨h.1, h.2.1, h.2.2.1, h.2.2.2.1, h.2.2.2.2.1, fun t ht => ?_⟩
          obtain ⟨a1, a2, a3, a4⟩ := h.2.2.2.2.2 t ht
          have e6 : (shBR (shBeg M k b n) k b n).1 6 = upd (upd (M.1 6) (2 * k + 0) b) (2 * k + 1) (if b = 0 then 0 else n) := rfl
          have e17 : (shBR (shBeg M k b n) k b n).1 17 = upd (M.1 17) k b := rfl
          have e18 : (shBR (shBeg M k b n) k b n).1 18 = upd (M.1 18) k (if b = 0 then 0 else n) := rfl
          have eL4 : (shBR (shBeg M k b n) k b n).2 4 = zfR k 40 (M.2 4) := by
            simp only [shBR, shBeg, mL, wr_s, wr_n (show (4 : Nat) ≠ k by omega)]
          have eLt : (shBR (shBeg M k b n) k b n).2 t = if t = k then zf 40 (M.2 k) else M.2 t := by
            simp only [shBR, shBeg, mL, wr_n (show t ≠ 4 by omega)]
            by_cases e : t = k
            · subst e; rw [wr_s, if_pos rfl]
            · rw [wr_n e, if_neg e]
          rw [e6, e17, e18, eL4, eLt]
          by_cases e : t = k
          · subst e
            rw [ud_s, ud_s, ud_n (by omega), ud_s, ud_s, if_pos rfl]
            refine ⟨rfl, rfl, ⟨l, hl, el⟩, fun i hi => ?_⟩
            unfold zfR zf
            rw [if_pos (by omega), if_pos (by omega)]
          · rw [ud_n e, ud_n e, ud_n (by omega), ud_n (by omega), ud_n (by omega), ud_n (by omega), if_neg e]
            refine ⟨a1, a2, a3, fun i hi => ?_⟩
            unfold zfR
            rw [if_neg (by omega)]
            exact a4 i hi
      · rw [if_neg h4]
        refine Eq2_bad h (by omega) ?_
        unfold R_sheet; rw [ho, cond_false, if_pos h0, if_neg h4]
    · rw [if_neg h0]
      refine Eq2_bad h (by omega) ?_
      unfold R_sheet; rw [ho, cond_false, if_neg h0]
/-- a number put on a sheet, on both sides -/
theorem RH_put {A B : ex_M} {s i : Nat} {v : Int64} (hs : s < 4) (hi : i < 40) (hb : B.1 17 s = A.1 6 (2 * s + 0)) (hn : ∀ t, t < 4 → ∀ k, k < 40 → B.2 4 (40 * t + k) = A.2 t k) : ∀ t, t < 4 → ∀ k, k < 40 → (putR B s i v).2 4 (40 * t + k) = (shPut A s i v).2 t k := by
  intro t ht k hk
  have e1 : (putR B s i v).2 4 = vp_updL (B.2 4) (40 * s + i) (ctI (B.1 17 s) v) := by simp only [putR, mL, wr_s]
  have e2 : (shPut A s i v).2 t = if t = s then vp_updL (A.2 s) i (ctI (A.1 6 (2 * s + 0)) v) else A.2 t := by
    simp only [shPut, mL]
    by_cases e : t = s
    · subst e; rw [wr_s, if_pos rfl]
    · rw [wr_n e, if_neg e]
  rw [e1, e2, hb]
  unfold vp_updL
  by_cases e : t = s
  · subst e
    rw [if_pos rfl]
    by_cases e2 : k = i
    · subst e2; rw [if_pos rfl, if_pos rfl]
    · rw [if_neg (by omega), if_neg e2]; exact hn t ht k hk
  · rw [if_neg (by omega), if_neg e]; exact hn t ht k hk
theorem E_write {s i : Int32} {v : Int64} (h : Rel M) : Eq2 (D_write M s i v) (fun N => R_write N s i v) := by
  have hh := h.2.2.2.2.2
  unfold D_write
  rcases fo_cases M s with ⟨o1, e⟩ | ⟨k, hk, rfl, o1, ⟨hb, e⟩ | ⟨hb, e⟩⟩
  · rw [e, if_neg fnd0_ne]
    unfold badv
    rw [if_pos rfl]
    refine Eq2_ok (N2 := (rbad (bad M 0).2 0).2) ?_ (Rel_bad (by omega) h).2
    unfold R_write; rw [o1, cond_true]
  · have ck : ix (nI k) = k := nI_clamp (by omega)
    rw [e, if_neg fnd5_ne]
    unfold badv
    rw [if_neg fnd50]
    refine Eq2_ok (N2 := (rbad (bad M 5).2 5).2) ?_ (Rel_bad (by omega) h).2
    unfold R_write; rw [o1, cond_false, ck, show (bad M 5).2.1 17 k = M.1 6 (2 * k + 0) from (hh k hk).1, if_pos hb]
  · have ck : ix (nI k) = k := nI_clamp (by omega)
    obtain ⟨l, hl, el⟩ := (hh k hk).2.2.1
    rw [e, if_pos rfl, ck]
    cases hi : out i 0 (M.1 6 (2 * k + 1) - 1) with
    | true =>
      rw [cond_true]
      refine Eq2_ok (N2 := (rbad (bad M 0).2 0).2) ?_ (Rel_bad (by omega) h).2
      unfold R_write; rw [o1, cond_false, ck, show (bad M 0).2.1 17 k = M.1 6 (2 * k + 0) from (hh k hk).1, if_neg hb, show (bad M 0).2.1 18 k = M.1 6 (2 * k + 1) from (hh k hk).2.1, hi, cond_true]
    | false =>
      rw [cond_false]
      obtain ⟨j, hj, rfl⟩ := out_ix2 el (by omega) hi
      have cj : ix (nI j) = j := nI_clamp (by omega)
      rw [cj]
      have n4 : (shPut M k j v).2 4 = M.2 4 := by simp only [shPut, mL]; exact wr_n (by omega)
      refine Eq2_ok (N2 := putR (shPut M k j v) k j v) ?_ ?_
      · unfold R_write; rw [o1, cond_false, ck, cj, show (shPut M k j v).1 17 k = M.1 6 (2 * k + 0) from (hh k hk).1, if_neg hb, show (shPut M k j v).1 18 k = M.1 6 (2 * k + 1) from (hh k hk).2.1, hi, cond_false, n4, (hh k hk).2.2.2 j (by omega)]
      · refine ⟨h.1, h.2.1, h.2.2.1, h.2.2.2.1, h.2.2.2.2.1, fun t ht => ?_⟩
        obtain ⟨a1, a2, a3, a4⟩ := hh t ht
        refine ⟨a1, a2, a3, fun i hi => ?_⟩
        have q := RH_put (A := M) (B := shPut M k j v) (v := v) hk (show j < 40 by omega) (hh k hk).1 (fun t ht i hi => by rw [n4]; exact (hh t ht).2.2.2 i hi) t ht i hi
        rw [q]
        simp only [putR, mL, wr_n (show t ≠ 4 by omega)]
theorem hB_iff {a : Nat} {f n : Int32} (ha : a ≤ 40) : holdsB (nI a) f n = true ↔ ∃ x y, f = nI x ∧ n = nI y ∧ x + y ≤ a := by
  refine ⟨holds_of ha, fun ⟨x, y, e1, e2, hl⟩ => ?_⟩
  subst e1 e2
  unfold holdsB
  rw [decide_eq_false (nI_pos (by omega)), decide_eq_false (nI_pos (by omega)), decide_eq_false (nI_nlt (by omega) (by omega)), pk_sub (by omega), decide_eq_false (nI_nlt (by omega) (by omega))]; rfl
theorem hR_iff {a x y : Nat} (ha : a ≤ 40) (hx : x < 2 ^ 31) (hy : y < 2 ^ 31) : holdsR (nI a) (nI x) (nI y) = true ↔ x + y ≤ a := by
  unfold holdsR
  rw [Bool.not_eq_true', decide_eq_false_iff_not, Int64.lt_iff_toInt_lt, Int64.toInt_add, Int32.toInt_toInt64, Int32.toInt_toInt64, Int32.toInt_toInt64, nI_toInt hx, nI_toInt hy, nI_toInt (by omega), Int.bmod_eq_of_le (by omega) (by omega)]
  omega
theorem ok_eq {a b : Nat} {f o n : Int32} (ha : a ≤ 40) (hb : b ≤ 40) : okR (nI a) (nI b) f o n = (holdsB (nI a) f n && holdsB (nI b) o n) := by
  rw [Bool.eq_iff_iff, Bool.and_eq_true, hB_iff ha, hB_iff hb]
  unfold okR
  rw [Bool.and_eq_true, Bool.and_eq_true, Bool.and_eq_true, Bool.and_eq_true]
  refine ⟨fun ⟨h1, h2, h3, h4, h5⟩ => ?_, fun ⟨⟨x, y, e1, e2, hl⟩, ⟨x2, y2, e3, e4, hl2⟩⟩ => ?_⟩
  · rw [Bool.not_eq_true', decide_eq_false_iff_not] at h1 h2 h3
    obtain ⟨x, hx, rfl⟩ := nI_of h1
    obtain ⟨x2, hx2, rfl⟩ := nI_of h2
    obtain ⟨y, hy, rfl⟩ := nI_of h3
    exact ⟨⟨x, y, rfl, rfl, (hR_iff ha hx hy).mp h4⟩, ⟨x2, y, rfl, rfl, (hR_iff hb hx2 hy).mp h5⟩⟩
  · subst e1 e2 e3
    have : y = y2 := (nI_eq (by omega) (by omega)).mp e4
    subst this
    refine ⟨?_, ?_, ?_, (hR_iff ha (by omega) (by omega)).mpr hl, (hR_iff hb (by omega) (by omega)).mpr hl2⟩
    · rw [decide_eq_false (nI_pos (by omega))]; rfl
    · rw [decide_eq_false (nI_pos (by omega))]; rfl
    · rw [decide_eq_false (nI_pos (by omega))]; rfl
theorem E_copy {s f t o n : Int32} (h : Rel M) : Eq2 (D_copy M s f t o n) (fun N => R_copy N s f t o n) := by
  have hh := h.2.2.2.2.2
  unfold D_copy
  cases ho : (out s 0 3 || out t 0 3) with
  | true =>
    refine Eq2_bad h (by omega) ?_
    unfold R_copy; rw [ho, cond_true]
  | false =>
    obtain ⟨o1, o2⟩ := Bool.or_eq_false_iff.mp ho
    obtain ⟨k, hk, rfl⟩ := out_nat (n := 3) (by decide) o1
    obtain ⟨j, hj, rfl⟩ := out_nat (n := 3) (by decide) o2
    have ck : ix (nI k) = k := nI_clamp (by omega)
    have cj : ix (nI j) = j := nI_clamp (by omega)
    rw [cond_false, ck, cj]
    obtain ⟨a1, a2, ⟨la, hla, ea⟩, a4⟩ := hh k (by omega)
    obtain ⟨b1, b2, ⟨lb, hlb, eb⟩, b4⟩ := hh j (by omega)
    cases hm : (decide (M.1 6 (2 * k + 0) = 0) || decide (M.1 6 (2 * j + 0) = 0)) with
    | true =>
      rw [cond_true]
      refine Eq2_bad h (by omega) ?_
      unfold R_copy; rw [ho, cond_false, ck, cj, show (bad M 5).2.1 17 k = M.1 6 (2 * k + 0) from a1, show (bad M 5).2.1 17 j = M.1 6 (2 * j + 0) from b1, hm, cond_true]
    | false =>
      rw [cond_false]
      by_cases hb : M.1 6 (2 * k + 0) = M.1 6 (2 * j + 0)
      · rw [if_pos hb]
        cases hd : (holdsB (M.1 6 (2 * k + 1)) f n && holdsB (M.1 6 (2 * j + 1)) o n) with
        | false =>
          rw [cond_false]
          refine Eq2_bad h (by omega) ?_
          unfold R_copy; rw [ho, cond_false, ck, cj, show (bad M 0).2.1 17 k = M.1 6 (2 * k + 0) from a1, show (bad M 0).2.1 17 j = M.1 6 (2 * j + 0) from b1, hm, cond_false, if_pos hb, show (bad M 0).2.1 18 k = nI la from a2.trans ea, show (bad M 0).2.1 18 j = nI lb from b2.trans eb, ok_eq hla hlb, ← ea, ← eb, hd, cond_false]
        | true =>
          rw [cond_true]
          have hd2 := hd
          rw [ea, eb, Bool.and_eq_true, hB_iff hla, hB_iff hlb] at hd2
          obtain ⟨⟨x, y, e1, e2, hl⟩, ⟨x2, y2, e3, e4, hl2⟩⟩ := hd2
          subst e1 e2 e3
          have ey : y = y2 := (nI_eq (by omega) (by omega)).mp e4
          subst ey
          have cx : ix (nI x) = x := nI_clamp (by omega)
          have cx2 : ix (nI x2) = x2 := nI_clamp (by omega)
          have cy : ix (nI y) = y := nI_clamp (by omega)
          rw [cx, cx2, cy]
          have n4 : (mL M j (va_cpy (M.2 k) (M.2 j) x x2 y)).2 4 = M.2 4 := by simp only [mL]; exact wr_n (by omega)
          refine Eq2_ok (N2 := cpR (mL M j (va_cpy (M.2 k) (M.2 j) x x2 y)) k x j x2 y) ?_ ?_
          · unfold R_copy; rw [ho, cond_false, ck, cj, show (mL M j (va_cpy (M.2 k) (M.2 j) x x2 y)).1 17 k = M.1 6 (2 * k + 0) from a1, show (mL M j (va_cpy (M.2 k) (M.2 j) x x2 y)).1 17 j = M.1 6 (2 * j + 0) from b1, hm, cond_false, if_pos hb, show (mL M j (va_cpy (M.2 k) (M.2 j) x x2 y)).1 18 k = nI la from a2.trans ea, show (mL M j (va_cpy (M.2 k) (M.2 j) x x2 y)).1 18 j = nI lb from b2.trans eb, ok_eq hla hlb, ← ea, ← eb, hd, cond_true, cx, cx2, cy]
          · refine ⟨h.1, h.2.1, h.2.2.1, h.2.2.2.1, h.2.2.2.2.1, fun t ht => ?_⟩
            obtain ⟨c1, c2, c3, c4⟩ := hh t ht
            refine ⟨c1, c2, c3, fun i hi => ?_⟩
            have eR : (cpR (mL M j (va_cpy (M.2 k) (M.2 j) x x2 y)) k x j x2 y).2 4 = mvB (40 * j + x2) y (mvA (40 * k + x) y (M.2 4) ((mL M j (va_cpy (M.2 k) (M.2 j) x x2 y)).2 5)) (M.2 4) := by
              simp only [cpR, mL, wr_s, wr_n (show (4 : Nat) ≠ 5 by decide), wr_n (show (4 : Nat) ≠ j by omega)]
            have eL : (cpR (mL M j (va_cpy (M.2 k) (M.2 j) x x2 y)) k x j x2 y).2 t = if t = j then va_cpy (M.2 k) (M.2 j) x x2 y else M.2 t := by
              simp only [cpR, mL, wr_n (show t ≠ 4 by omega), wr_n (show t ≠ 5 by omega)]
              by_cases e : t = j
              · subst e; rw [wr_s, if_pos rfl]
              · rw [wr_n e, if_neg e]
            rw [eR, eL]
            unfold mvB mvA
            by_cases e : t = j
            · subst e
              rw [if_pos rfl]
              unfold va_cpy
              by_cases q : x2 ≤ i ∧ i < x2 + y
              · rw [if_pos (by omega), if_pos q, if_pos (by omega), show 40 * k + x + (40 * t + i - (40 * t + x2)) = 40 * k + (x + (i - x2)) by omega]
                exact a4 _ (by omega)
              · rw [if_neg (by omega), if_neg q]
                exact c4 i hi
            · rw [if_neg e, if_neg (by omega)]
              exact c4 i hi
      · rw [if_neg hb]
        refine Eq2_bad h (by omega) ?_
        unfold R_copy; rw [ho, cond_false, ck, cj, show (bad M 2).2.1 17 k = M.1 6 (2 * k + 0) from a1, show (bad M 2).2.1 17 j = M.1 6 (2 * j + 0) from b1, hm, cond_false, if_neg hb]
theorem l2i_rg {x : Int64} (h1 : ¬ x < 0) (h2 : ¬ 9999 < x) : 0 ≤ x.toInt32 ∧ x.toInt32 ≤ 9999 := by
  rw [Int64.lt_iff_toInt_lt] at h1 h2
  rw [show (0 : Int64).toInt = 0 from rfl] at h1
  rw [show (9999 : Int64).toInt = 9999 from rfl] at h2
  rw [Int32.le_iff_toInt_le, Int32.le_iff_toInt_le, Int64.toInt_toInt32, Int.bmod_eq_of_le (by omega) (by omega), show (0 : Int32).toInt = 0 from rfl, show (9999 : Int32).toInt = 9999 from rfl]
  omega
theorem Q_lay {nu nu2 : Nat → Int64} : ∀ m i c a b, RA a b np ne → i + m ≤ np → (∀ k, k < i + m → nu2 k = nu k) → (layL nu2 m i c b).1 = (layL nu m i c a).1 ∧ RA (layL nu m i c a).2 (layL nu2 m i c b).2 np ne
  | 0, _, _, _, _, r, _, _ => ⟨rfl, r⟩
  | m + 1, i, c, a, b, r, hm, hn => by
    rw [layL, layL, hn i (by omega)]
    by_cases hc : nu i < 0 ∨ 9999 < nu i
    · rw [if_pos hc, if_pos hc]
      exact Q_lay m (i + 1) c a b r (by omega) (fun k hk => hn k (by omega))
    · rw [if_neg hc, if_neg hc]
      exact Q_lay m (i + 1) (c + 1) _ _ (RA_p r (by omega) (by omega) (WB_pu r.1.1 (l2i_rg (fun z => hc (Or.inl z)) (fun z => hc (Or.inr z))))) (by omega) (fun k hk => hn k (by omega))
theorem E_lays {l : Nat} {s : Int32} (h : Rel M) (r : RA (M.1 0) (M.1 10) np ne) (hl : l ≤ 40) : Eq2 (D_lays M np l s) (fun N => R_lays N np l s) := by
  have hh := h.2.2.2.2.2
  unfold D_lays
  by_cases hz : fo M s = 0
  · rw [if_pos hz]
    obtain ⟨k, hk, rfl, hb⟩ := fo_0 hz
    have ck : ix (nI k) = k := nI_clamp (by omega)
    rw [ck]
    have q := Q_lay (nu := M.2 k) (nu2 := fun i => M.2 4 (40 * k + i)) (min l np) 0 0 _ _ r (by omega) (fun i hi => (hh k hk).2.2.2 i (by omega))
    refine Eq2_ok (N2 := mI (mI M 0 (layL (M.2 k) (min l np) 0 0 (M.1 0)).2) 10 (layL (fun i => M.2 4 (40 * k + i)) (min l np) 0 0 (M.1 10)).2) ?_ (Rel_A h q.2)
    unfold R_lays
    rw [foR_eq (M := M) (N := mI M 0 (layL (M.2 k) (min l np) 0 0 (M.1 0)).2) hh rfl, if_pos hz, ck, show nmR (mI M 0 (layL (M.2 k) (min l np) 0 0 (M.1 0)).2) k = (fun i => M.2 4 (40 * k + i)) from rfl, show (mI M 0 (layL (M.2 k) (min l np) 0 0 (M.1 0)).2).1 10 = M.1 10 from rfl, q.1]
  · rw [if_neg hz]
    refine Eq2_fo h hz (fun N e => ?_)
    unfold R_lays
    rw [if_neg (by rw [foR_eq hh e]; exact hz)]
/-! books -/
theorem bokL_q {j s q : Nat} (hq : q ≠ 1) : ∀ m i A, (bokL np ne j s m i A).1 q = A.1 q
  | 0, _, _ => rfl
  | m + 1, i, A => by rw [bokL, bokL_q hq m]; exact mI_n hq
theorem bokL_t {j s t : Nat} (ht : t ≠ s) : ∀ m i A, (bokL np ne j s m i A).2 t = A.2 t
  | 0, _, _ => rfl
  | m + 1, i, A => by rw [bokL, bokL_t ht m]; simp only [mI, shPut, mL]; exact wr_n ht
theorem bokR_q {aw : Int32} {j s q : Nat} (hq : q ≠ 10) : ∀ m i A, (bokR aw np ne j s m i A).1 q = A.1 q
  | 0, _, _ => rfl
  | m + 1, i, A => by rw [bokR, bokR_q hq m]; exact mI_n hq
theorem bokR_t {aw : Int32} {j s t : Nat} (ht : t ≠ 4) : ∀ m i A, (bokR aw np ne j s m i A).2 t = A.2 t
  | 0, _, _ => rfl
  | m + 1, i, A => by rw [bokR, bokR_t ht m]; simp only [mI, putR, mL]; exact wr_n ht
theorem Q_bok {j s : Nat} (hj : j < np) (hs : s < 4) : ∀ m i A B, i + m ≤ 40 → RA (A.1 1) (B.1 10) np ne → B.1 17 s = A.1 6 (2 * s + 0) → (∀ t, t < 4 → ∀ k, k < 40 → B.2 4 (40 * t + k) = A.2 t k) → ∀ t, t < 4 → ∀ k, k < 40 → (bokR (-1) np ne j s m i B).2 4 (40 * t + k) = (bokL np ne j s m i A).2 t k
  | 0, _, _, _, _, _, _, h => h
  | m + 1, i, A, B, hm, r, hb, h => by
    rw [bokR, bokL, RA_pe r hj (by omega)]
    refine Q_bok hj hs m (i + 1) _ _ (by omega) ?_ hb ?_
    · rw [mI_s, mI_s]; exact RA_hour r
    · exact RH_put hs (by omega) hb h
theorem E_book {l : Nat} {s p : Int32} (h : Rel M) (r : RA (M.1 0) (M.1 10) np ne) (hl : l ≤ 40) : Eq2 (D_book M np ne l s p) (fun N => R_book N np ne l s p) := by
  have hh := h.2.2.2.2.2
  have e3 : M.1 10 3 = M.1 0 3 := r.2
  have ea := h.2.2.1
  unfold D_book
  by_cases hz : fo M s = 0
  · rw [if_pos hz]
    cases ho : out p 0 (M.1 0 3 - 1) with
    | true =>
      rw [cond_true]
      refine Eq2_bad h (by omega) ?_
      unfold R_book
      rw [foR_eq (M := M) (N := (bad M 0).2) hh rfl, if_pos hz, show (bad M 0).2.1 10 3 = M.1 0 3 from e3, ho, cond_true]
    | false =>
      rw [cond_false]
      obtain ⟨k, hk, rfl, hb⟩ := fo_0 hz
      have ck : ix (nI k) = k := nI_clamp (by omega)
      obtain ⟨j, hj, rfl⟩ := out_ix r.1.1.1.1 r.1.1.1.2.1 ho
      have hnp := r.1.1.1.2.1
      have cj : ix (nI j) = j := nI_clamp (by omega)
      rw [ck, cj]
      generalize hA : bokL np ne j k l 0 (tr0 M np ne) = A
      have aq : ∀ q, q ≠ 1 → A.1 q = M.1 q := fun q hq => by rw [← hA, bokL_q hq]; exact mI_n hq
      have at4 : A.2 4 = M.2 4 := by rw [← hA, bokL_t (by omega)]; rfl
      refine Eq2_ok (N2 := bck (bokR (-1) np ne j k l 0 (asd A))) ?_ ?_
      · unfold R_book
        rw [foR_eq (M := M) hh (aq 17 (by decide)), if_pos hz, aq 10 (by decide), e3, ho, cond_false, aq 14 (by decide), ea, ck, cj]
      · have wq : ∀ q, q ≠ 10 → q ≠ 12 → q ≠ 1 → (bck (bokR (-1) np ne j k l 0 (asd A))).1 q = M.1 q := fun q h1 h2 h3 => by
          unfold bck
          rw [mI_n h1, bokR_q h1]
          unfold asd
          rw [mI_n h2, aq q h3]
        have w10 : ∀ i, i < 84 → (bck (bokR (-1) np ne j k l 0 (asd A))).1 10 i = M.1 10 i := fun i hi => by
          unfold bck
          rw [mI_s, cpf_lt hi, bokR_q (by decide)]
          unfold asd
          rw [mI_s, cpf_lt hi, aq 10 (by decide)]
        have wt : ∀ t, t ≠ 4 → (bck (bokR (-1) np ne j k l 0 (asd A))).2 t = A.2 t := fun t ht => by
          show (bokR (-1) np ne j k l 0 (asd A)).2 t = A.2 t
          rw [bokR_t ht]; rfl
        have w4 : (bck (bokR (-1) np ne j k l 0 (asd A))).2 4 = (bokR (-1) np ne j k l 0 (asd A)).2 4 := rfl
        have qb := Q_bok (ne := ne) hj hk l 0 (tr0 M np ne) (asd A) (by omega) (by
            show RA (becR (M.1 1) (M.1 0) np ne) ((asd A).1 10) np ne
            rw [asd_10, aq 10 (by decide)]; exact RA_bec r) (by
            show (asd A).1 17 k = M.1 6 (2 * k + 0)
            unfold asd
            rw [mI_n (by decide), aq 17 (by decide)]; exact (hh k hk).1) (fun t ht i hi => by
            show (asd A).2 4 (40 * t + i) = M.2 t i
            rw [show (asd A).2 4 = M.2 4 from at4]; exact (hh t ht).2.2.2 i hi)
        rw [hA] at qb
        refine ⟨?_, ?_, ?_, ?_, ?_, fun t ht => ?_⟩
        · rw [wq 0 (by decide) (by decide) (by decide)]; exact ⟨np, ne, RA_ext r w10⟩
        · unfold RK
          rw [wq 3 (by decide) (by decide) (by decide), wq 14 (by decide) (by decide) (by decide), wq 2 (by decide) (by decide) (by decide), wq 11 (by decide) (by decide) (by decide)]; exact h.2.1
        · rw [wq 14 (by decide) (by decide) (by decide)]; exact ea
        · rw [wq 5 (by decide) (by decide) (by decide), wq 13 (by decide) (by decide) (by decide)]; exact h.2.2.2.1
        · unfold RT
          rw [wq 3 (by decide) (by decide) (by decide), wq 14 (by decide) (by decide) (by decide), wq 4 (by decide) (by decide) (by decide), wq 15 (by decide) (by decide) (by decide)]; exact h.2.2.2.2.1
        · rw [wq 17 (by decide) (by decide) (by decide), wq 18 (by decide) (by decide) (by decide), wq 6 (by decide) (by decide) (by decide), w4, wt t (by omega)]
          exact ⟨(hh t ht).1, (hh t ht).2.1, (hh t ht).2.2.1, fun i hi => qb t ht i hi⟩
  · rw [if_neg hz]
    refine Eq2_fo h hz (fun N e => ?_)
    unfold R_book
    rw [if_neg (by rw [foR_eq hh e]; exact hz)]
/-! when a purse was like that -/
theorem Q_tf {nu nu2 : Nat → Int64} {j : Nat} (hj : j < np) : ∀ m k a b, RA a b np ne → (∀ i, i < k + m → nu2 i = nu i) → (wsR (-1) np ne j nu2 m k b).1 = (tfL np ne j nu m k a).1
  | 0, _, _, _, _, _ => rfl
  | m + 1, k, a, b, r, hn => by
    rw [wsR, tfL, hn k (by omega), RA_pe r hj (by omega)]
    by_cases hc : nu k = (a (28 + 7 * j + 2)).toInt64
    · rw [if_pos hc, if_pos hc]
      exact Q_tf hj m (k + 1) _ _ (RA_hour r) (fun i hi => hn i (by omega))
    · rw [if_neg hc, if_neg hc]
theorem RA_clr {a b b2 x : Nat → Int32} {i v : Nat} (r : RA a b np ne) (hi : i < np) (he : ∀ j, j < 84 → ¬ (j = 28 + 7 * i + 3 ∨ j = 28 + 7 * i + 4) → b2 j = b j) : RA (muR i v (becR x a np ne)) (muR i v b2) np ne := by
  have k := RA_p (v := nI (v % 25) - 1) (RA_p (v := nI (v / 25) - 1) (RA_bec (x := x) r) hi (f := 3) (by omega) (WB_fr (RA_bec r).1.1 (by omega))) hi (f := 4) (by omega) (WB_fr (WB_fr (RA_bec r).1.1 (by omega)) (by omega))
  refine RA_ext k (fun j hj => ?_)
  unfold muR
  by_cases e4 : j = 28 + 7 * i + 4
  · rw [e4, ud_s, ud_s]
  · rw [ud_n e4, ud_n e4]
    by_cases e3 : j = 28 + 7 * i + 3
    · rw [e3, ud_s, ud_s]
    · rw [ud_n e3, ud_n e3]; exact he j hj (by omega)
theorem rd_core {N0 : ex_M} {q : Nat → Int32} {nu nu2 : Nat → Int64} {j l : Nat} (r : RA q (N0.1 10) np ne) (hj : j < np) (hn : ∀ i, i < l → nu2 i = nu i) : ∀ m v (z : Int32 × (Nat → Int32)) (w : Int32 × ex_M), w.1 = z.1 → IK (fun k => k = 28 + 7 * j + 3 ∨ k = 28 + 7 * j + 4) N0 w.2 → w.2.1 14 1 = N0.1 14 1 →
    (rdR (-1) np ne j l nu2 m v w).1 = (rdL np ne j l nu q m v z).1 ∧ IK (fun k => k = 28 + 7 * j + 3 ∨ k = 28 + 7 * j + 4) N0 (rdR (-1) np ne j l nu2 m v w).2 ∧ (rdR (-1) np ne j l nu2 m v w).2.1 14 1 = N0.1 14 1
  | 0, _, _, _, h1, h2, h3 => ⟨h1, h2, h3⟩
  | m + 1, v, z, w, h1, h2, h3 => by
    have ra : RA (muR j v (becR z.2 q np ne)) (muR j v (w.2.1 10)) np ne := RA_clr r hj (fun i hi he => h2.1 i hi he)
    rw [rdR, rdL, Q_tf (nu := nu) hj l 0 _ _ ra (fun i hi => hn i (by omega)), h1]
    exact rd_core r hj hn m (v + 1) _ _ rfl (IK_thk h2 (fun i hi hk => by unfold muR; rw [ud_n (fun z => hk (Or.inr z)), ud_n (fun z => hk (Or.inl z))])) h3
theorem E_read {l : Nat} {s p : Int32} (h : Rel M) (r : RA (M.1 0) (M.1 10) np ne) (hl : l ≤ 40) : Eq2 (D_read M np ne l s p) (fun N => R_read N np ne l s p) := by
  have hh := h.2.2.2.2.2
  have e3 : M.1 10 3 = M.1 0 3 := r.2
  have ea := h.2.2.1
  unfold D_read
  by_cases hz : fo M s = 0
  · rw [if_pos hz]
    cases ho : out p 0 (M.1 0 3 - 1) with
    | true =>
      rw [cond_true]
      refine Eq2_bad h (by omega) ?_
      unfold R_read
      rw [foR_eq (M := M) (N := (bad M 0).2) hh rfl, if_pos hz, show (bad M 0).2.1 10 3 = M.1 0 3 from e3, ho, cond_true]
    | false =>
      rw [cond_false]
      obtain ⟨k, hk, rfl, hb⟩ := fo_0 hz
      have ck : ix (nI k) = k := nI_clamp (by omega)
      obtain ⟨j, hj, rfl⟩ := out_ix r.1.1.1.1 r.1.1.1.2.1 ho
      have hnp := r.1.1.1.2.1
      have cj : ix (nI j) = j := nI_clamp (by omega)
      have key : ∀ (mn : Nat) (z : Int32 × (Nat → Int32)), z = rdL np ne j l (M.2 k) (M.1 0) mn 0 (0, M.1 1) → ∀ w : Int32 × ex_M, w = rdR (-1) np ne j l (fun i => M.2 4 (40 * k + i)) mn 0 (0, mI M 1 z.2) → w.1 = z.1 ∧ Rel (mJ (mJ w.2 10 (28 + 7 * j + 3) (M.1 10 (28 + 7 * j + 3))) 10 (28 + 7 * j + 4) (M.1 10 (28 + 7 * j + 4))) := fun mn z ez w ew => by
        have c := rd_core (N0 := mI M 1 z.2) (q := M.1 0) (nu := M.2 k) (nu2 := fun i => M.2 4 (40 * k + i)) (l := l) r hj (fun i hi => (hh k hk).2.2.2 i (by omega)) mn 0 (0, M.1 1) (0, mI M 1 z.2) rfl IK.rf rfl
        rw [← ew, ← ez] at c
        refine ⟨c.1, ?_⟩
        have k2 := IK_no (fun j q => by rcases q.1.1 with z | z; exact q.1.2 z; exact q.2 z) (IK_put (v := M.1 10 (28 + 7 * j + 4)) (IK_put (v := M.1 10 (28 + 7 * j + 3)) c.2.1 rfl) rfl)
        exact Rel_IK (N0 := mI M 1 z.2) h r h.2.2.2.1 rfl rfl rfl rfl rfl rfl rfl rfl rfl rfl rfl rfl rfl k2 (c.2.2.trans ea)
      have ez : zRead M np ne l (nI k) (nI j) = rdL np ne j l (M.2 k) (M.1 0) 625 0 (0, M.1 1) := by unfold zRead; rw [ck, cj]
      generalize hZ : zRead M np ne l (nI k) (nI j) = z at ez
      have ew : zRdR (mI M 1 z.2) np ne l (nI k) (nI j) = rdR (-1) np ne j l (fun i => M.2 4 (40 * k + i)) 625 0 (0, mI M 1 z.2) := by
        unfold zRdR
        rw [ck, cj, show (mI M 1 z.2).1 14 1 = -1 from ea, show nmR (mI M 1 z.2) k = (fun i => M.2 4 (40 * k + i)) from rfl]
      have kk := key 625 z ez _ ew
      generalize hW : zRdR (mI M 1 z.2) np ne l (nI k) (nI j) = w at kk ew
      refine Eq2_ok (N2 := mJ (mJ w.2 10 (28 + 7 * j + 3) (M.1 10 (28 + 7 * j + 3))) 10 (28 + 7 * j + 4) (M.1 10 (28 + 7 * j + 4))) ?_ kk.2
      unfold R_read
      rw [foR_eq (M := M) (N := mI M 1 z.2) hh rfl, if_pos hz, show (mI M 1 z.2).1 10 = M.1 10 from rfl, e3, ho, cond_false, hW, cj, kk.1]
  · rw [if_neg hz]
    refine Eq2_fo h hz (fun N e => ?_)
    unfold R_read
    rw [if_neg (by rw [foR_eq hh e]; exact hz)]
end Sheets
