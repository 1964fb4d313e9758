/-! clocks, tolls, news, who is needed, sums: on both sides -/
theorem IK_thk0 {K : Nat → Prop} {N0 N : ex_M} {c : Nat → Int32} (h : IK K N0 N) : IK K N0 (thk N c) := by
  have q := IK_thk (b := N.1 10) (c := c) h (fun _ _ _ => rfl)
  rw [mI_id] at q
  exact q
theorem IK_pl {K : Nat → Prop} {N0 N : ex_M} {pl : Nat} {v : Int32} (h : IK K N0 N) (hk : K pl) : IK K N0 (mJ N 10 pl v) := by
  refine ⟨fun j hj hn => ?_, fun q h1 h2 h3 => ?_, fun k h1 h2 => h.2.2.1 k h1 h2, h.2.2.2⟩
  · simp only [mJ, wr_s]; rw [ud_n (fun z => hn (by rw [z]; exact hk))]; exact h.1 j hj hn
  · rw [← h.2.1 q h1 h2 h3]; simp only [mJ]; exact wr_n h1
theorem IK_mI {K : Nat → Prop} {N0 N : ex_M} {b : Nat → Int32} (h : IK K N0 N) (hb : ∀ j, j < 84 → ¬ K j → b j = N.1 10 j) : IK K N0 (mI N 10 b) := by
  refine ⟨fun j hj hn => ?_, fun q h1 h2 h3 => ?_, fun k h1 h2 => h.2.2.1 k h1 h2, h.2.2.2⟩
  · rw [mI_s, hb j hj hn]; exact h.1 j hj hn
  · rw [← h.2.1 q h1 h2 h3]; exact mI_n h1
theorem IK_sub {K K2 : Nat → Prop} {N0 N : ex_M} (hK : ∀ j, K j → K2 j) (h : IK K N0 N) : IK K2 N0 N := ⟨fun j hj hn => h.1 j hj (fun z => hn (hK j z)), h.2⟩
theorem RA_clk {a b b2 x : Nat → Int32} {np ne i v : Nat} (r : RA a b np ne) (hi : i < np) (he : ∀ j, j < 84 → ¬ (j = 28 + 7 * i + 3 ∨ j = 28 + 7 * i + 4) → b2 j = b j) : RA (muC i v (becR x a np ne)) (muC i v b2) np ne := by
  have k := RA_p (v := nI (v % 24)) (RA_p (v := nI (v / 24)) (RA_bec (x := x) r) hi (f := 3) (by omega) (WB_fr (RA_bec r).1.1 (by omega))) hi (f := 4) (by omega) (WB_fr (WB_fr (RA_bec r).1.1 (by omega)) (by omega))
  refine RA_ext k (fun j hj => ?_)
  unfold muC
  by_cases e4 : j = 28 + 7 * i + 4
  · rw [e4, ud_s, ud_s]
  · rw [ud_n e4, ud_n e4]
    by_cases e3 : j = 28 + 7 * i + 3
    · rw [e3, ud_s, ud_s]
    · rw [ud_n e3, ud_n e3]; exact he j hj (by omega)
theorem neg1_of {y : Int32} (p1 : 0 ≤ y) : ¬ y ≤ -1 := fun q => by
  rw [Int32.le_iff_toInt_le] at p1 q
  have : (0 : Int32).toInt = 0 := rfl
  have : (-1 : Int32).toInt = -1 := rfl
  omega
theorem fcm_core {M : ex_M} {np ne n i mn : Nat} (h : Rel M) (r : RA (M.1 0) (M.1 10) np ne) (hi : i < np) (hm : 0 < mn) (hm2 : mn < 1000)
    (z : (Nat → Int32) × (Nat → Int32)) (hz : z = lpB np ne np n (fun _ => false) (muC i) (fun t => t (28 + 7 * i + 2)) (M.1 0) mn 0 (M.1 1, bst0 (M.1 3) (-1)))
    (w : ex_M × Int32) (hw : w = lpF (-1) np ne n i mn 0 (mJ (fin3 M z) 14 2 (-1), 0)) :
    w.2 = z.2 1 ∧ 0 ≤ z.2 1 ∧ (mJ (mJ w.1 10 (28 + 7 * i + 3) ((fin3 M z).1 10 (28 + 7 * i + 3))) 10 (28 + 7 * i + 4) ((fin3 M z).1 10 (28 + 7 * i + 4))).1 14 2 = z.2 2 ∧ Rel (mJ (mJ w.1 10 (28 + 7 * i + 3) ((fin3 M z).1 10 (28 + 7 * i + 3))) 10 (28 + 7 * i + 4) ((fin3 M z).1 10 (28 + 7 * i + 4))) := by
  have hV : ∀ t k, k < 0 + mn → (fun _ : Nat => false) k = false → (fun t : Nat → Int32 => t (28 + 7 * i + 2)) (hoursC np ne n (muC i k (becR t (M.1 0) np ne))) = (fun k => hoursR (-1) np ne n (muC i k (M.1 10)) (28 + 7 * i + 2)) k := fun t k hk _ =>
    (RA_val (RA_clk r hi (fun _ _ _ => rfl)) hi).1.symm
  have e2 : z.2 = fB (fun _ => false) (fun k => hoursR (-1) np ne n (muC i k (M.1 10)) (28 + 7 * i + 2)) mn 0 (bst0 (M.1 3) (-1)) := by rw [hz]; exact lpB_2 mn 0 _ hV
  have hv0 : ∀ k N, IK (fun k => k = 28 + 7 * i + 3 ∨ k = 28 + 7 * i + 4) (fin3 M z) N → hoursR (-1) np ne n (muC i k (N.1 10)) (28 + 7 * i + 2) = hoursR (-1) np ne n (muC i k (M.1 10)) (28 + 7 * i + 2) := fun k N hN => by
    rw [(RA_val (RA_clk (x := M.1 1) r hi (fun j hj e => hN.1 j hj e)) hi).1, (RA_val (RA_clk (x := M.1 1) r hi (fun _ _ _ => rfl)) hi).1]
  have loop : ∀ m k w, IK (fun k => k = 28 + 7 * i + 3 ∨ k = 28 + 7 * i + 4) (fin3 M z) w.1 → w.1.1 14 1 = (fin3 M z).1 14 1 → IK (fun k => k = 28 + 7 * i + 3 ∨ k = 28 + 7 * i + 4) (fin3 M z) (lpF (-1) np ne n i m k w).1 ∧ (lpF (-1) np ne n i m k w).1.1 14 1 = (fin3 M z).1 14 1 ∧ ((lpF (-1) np ne n i m k w).2, (lpF (-1) np ne n i m k w).1.1 14 2) = fR (fun k => hoursR (-1) np ne n (muC i k (M.1 10)) (28 + 7 * i + 2)) m k (w.2, w.1.1 14 2) := by
    intro m
    induction m with
    | zero => intro k w h1 h2; exact ⟨h1, h2, rfl⟩
    | succ m ih =>
      intro k w h1 h2
      rw [lpF, fR, hv0 k w.1 h1]
      exact ih (k + 1) _ (IK_14 (Or.inr rfl) (IK_thk h1 (fun j hj hk => by unfold muC; rw [ud_n (fun z => hk (Or.inr z)), ud_n (fun z => hk (Or.inl z))]))) h2
  obtain ⟨l1, l2, l3⟩ := loop mn 0 (mJ (fin3 M z) 14 2 (-1), 0) (IK_14 (Or.inr rfl) IK.rf) rfl
  have hc : CB False 0 z.2 (fR (fun k => hoursR (-1) np ne n (muC i k (M.1 10)) (28 + 7 * i + 2)) mn 0 (0, -1)) := by
    rw [e2]
    obtain ⟨m, rfl⟩ : ∃ m, mn = m + 1 := ⟨mn - 1, by omega⟩
    rw [fB, fR]
    refine CB_fold m 1 _ _ (by omega) (fun k hk => rfl) ?_
    have p0 := (RA_val (n := n) (RA_clk (x := M.1 1) (v := 0) r hi (fun _ _ _ => rfl)) hi)
    have p1 : 0 ≤ hoursR (-1) np ne n (muC i 0 (M.1 10)) (28 + 7 * i + 2) := by rw [p0.1]; exact p0.2
    generalize hoursR (-1) np ne n (muC i 0 (M.1 10)) (28 + 7 * i + 2) = y at p1
    have p2 := neg1_of p1
    rw [cond_false]
    unfold bst
    rw [show bst0 (M.1 3) (-1) 2 = -1 from rfl, if_neg p2, if_neg p2, mxI_gt p2]
    exact ⟨ud_s, Int32.le_of_lt (Int32.not_le.mp p2), Or.inr ⟨0, by omega, by rw [ud_n (by decide), ud_s], rfl⟩⟩
  rw [← hw] at l1 l2 l3
  have l3' : (w.2, w.1.1 14 2) = fR (fun k => hoursR (-1) np ne n (muC i k (M.1 10)) (28 + 7 * i + 2)) mn 0 (0, -1) := l3
  rw [← l3'] at hc
  rcases hc.2.2 with q | ⟨k, hk, q1, q2⟩
  · exact absurd q.1 id
  refine ⟨q2.trans q1.symm, by rw [q1]; exact nI_pos' hk, hc.1.symm, ?_⟩
  have k2 := IK_no (fun j q => by rcases q.1.1 with z | z; exact q.1.2 z; exact q.2 z) (IK_put (v := (fin3 M z).1 10 (28 + 7 * i + 4)) (IK_put (v := (fin3 M z).1 10 (28 + 7 * i + 3)) l1 rfl) rfl)
  exact Rel_IK (N0 := fin3 M z) h r h.2.2.2.1 rfl rfl rfl rfl (by show z.2 0 = _; rw [e2, fB_k (by decide) (by decide)]; rfl) (by show z.2 3 = _; rw [e2, fB_k (by decide) (by decide)]; rfl) rfl rfl rfl rfl rfl rfl rfl k2 (l2.trans h.2.2.1)
theorem zFc_eq (M : ex_M) (aw : Int32) (np ne h j : Nat) : zFc M aw np ne h j = lpF aw np ne h j 576 0 (mJ M 14 2 (-1), 0) := by unfold zFc; rfl
theorem fcR_1 (M : ex_M) (aw : Int32) (np ne h j : Nat) : (fcR M aw np ne h j).1 = (zFc M aw np ne h j).2 := by simp only [fcR]
theorem fcR_2 (M : ex_M) (aw : Int32) (np ne h j : Nat) : (fcR M aw np ne h j).2 = mJ (mJ (zFc M aw np ne h j).1 10 (28 + 7 * j + 3) (M.1 10 (28 + 7 * j + 3))) 10 (28 + 7 * j + 4) (M.1 10 (28 + 7 * j + 4)) := by simp only [fcR]
theorem fc_core {M : ex_M} {np ne n i : Nat} (h : Rel M) (r : RA (M.1 0) (M.1 10) np ne) (hi : i < np)
    (z : (Nat → Int32) × (Nat → Int32)) (hz : z = lpB np ne np n (fun _ => false) (muC i) (fun t => t (28 + 7 * i + 2)) (M.1 0) 576 0 (M.1 1, bst0 (M.1 3) (-1))) :
    (fcR (fin3 M z) (-1) np ne n i).1 = z.2 1 ∧ 0 ≤ z.2 1 ∧ (fcR (fin3 M z) (-1) np ne n i).2.1 14 2 = z.2 2 ∧ Rel (fcR (fin3 M z) (-1) np ne n i).2 := by
  have k := fcm_core (mn := 576) h r hi (by omega) (by omega) z hz (zFc (fin3 M z) (-1) np ne n i) (zFc_eq _ _ _ _ _ _)
  rw [fcR_1, fcR_2]
  exact k
section Calls5
variable {M : ex_M} {np ne : Nat}
theorem E_clocks {p n : Int32} (h : Rel M) (r : RA (M.1 0) (M.1 10) np ne) : Eq2 (D_clocks M np ne p n) (fun N => R_clocks N np ne p n) := by
  have e3 : M.1 10 3 = M.1 0 3 := r.2
  have ea := h.2.2.1
  unfold D_clocks D_noOne
  cases ho : (out p 0 (M.1 0 3 - 1) || out n 0 48) with
  | true =>
    refine Eq2_bad h (by omega) ?_
    unfold R_clocks; rw [show (bad M 0).2.1 10 3 = M.1 0 3 from e3, ho]; rfl
  | false =>
    obtain ⟨o1, -⟩ := Bool.or_eq_false_iff.mp ho
    obtain ⟨i, hi, rfl⟩ := out_ix r.1.1.1.1 r.1.1.1.2.1 o1
    have hnp := r.1.1.1.2.1
    have ci : ix (nI i) = i := nI_clamp (by omega)
    rw [cond_false]
    have k := fc_core (n := ix n) (i := i) h r hi (zClk M np ne (nI i) n) (by unfold zClk; rw [ci])
    generalize zClk M np ne (nI i) n = z at k
    have e : R_clocks (fin3 M z) np ne (nI i) n = fcR (fin3 M z) (-1) np ne (ix n) i := by
      unfold R_clocks
      rw [show (fin3 M z).1 10 3 = M.1 0 3 from e3, ho, show (fin3 M z).1 14 1 = -1 from ea, ci]; rfl
    unfold Eq2
    simp only [e]
    exact ⟨k.1, k.2.2.2⟩
theorem E_rich {p n : Int32} (h : Rel M) (r : RA (M.1 0) (M.1 10) np ne) : Eq2 (D_rich M np ne p n) (fun N => R_rich N np ne p n) := by
  have e3 : M.1 10 3 = M.1 0 3 := r.2
  have ea := h.2.2.1
  unfold D_rich D_noOne
  cases ho : (out p 0 (M.1 0 3 - 1) || out n 0 48) with
  | true =>
    refine Eq2_bad h (by omega) ?_
    unfold R_rich; rw [show (bad M 0).2.1 10 3 = M.1 0 3 from e3, ho]; rfl
  | false =>
    obtain ⟨o1, -⟩ := Bool.or_eq_false_iff.mp ho
    obtain ⟨i, hi, rfl⟩ := out_ix r.1.1.1.1 r.1.1.1.2.1 o1
    have hnp := r.1.1.1.2.1
    have ci : ix (nI i) = i := nI_clamp (by omega)
    rw [cond_false]
    have k := fc_core (n := ix n) (i := i) h r hi (zClk M np ne (nI i) n) (by unfold zClk; rw [ci])
    generalize zClk M np ne (nI i) n = z at k
    have e : R_rich (fin3 M z) np ne (nI i) n = (z.2 2, (fcR (fin3 M z) (-1) np ne (ix n) i).2) := by
      unfold R_rich
      rw [show (fin3 M z).1 10 3 = M.1 0 3 from e3, ho, show (fin3 M z).1 14 1 = -1 from ea, ci, cond_false, if_pos (by rw [k.1]; exact k.2.1), k.2.2.1]
    unfold Eq2
    simp only [e]
    exact ⟨trivial, k.2.2.2⟩
theorem Q_br {N0 : ex_M} {n : Nat} {v : Int32} {q : Nat → Int32} (r : RA q (N0.1 10) np ne) : ∀ m t N, m ≤ 100 → IK (fun j => j = 1) N0 N → N.1 14 1 = N0.1 14 1 → N.1 10 1 = nI m - 1 →
    (∃ k t', brs np ne n v q m t = (some k, t') ∧ k < 100 ∧ (brR (-1) np ne n v m N).1 = nI k ∧ IK (fun j => j = 1) N0 (brR (-1) np ne n v m N).2 ∧ (brR (-1) np ne n v m N).2.1 14 1 = N0.1 14 1) ∨ (∃ t', brs np ne n v q m t = (none, t') ∧ (brR (-1) np ne n v m N).1 = -1 ∧ IK (fun j => j = 1) N0 (brR (-1) np ne n v m N).2 ∧ (brR (-1) np ne n v m N).2.1 14 1 = N0.1 14 1)
  | 0, t, N, _, k, k1, _ => Or.inr ⟨t, rfl, rfl, k, k1⟩
  | m + 1, t, N, hm, k, k1, kt => by
    rw [nI_pred] at kt
    have ra : RA (upd (becR t q np ne) 1 (nI m)) (N.1 10) np ne := by
      refine RA_ext (RA_0 (v := nI m) (RA_bec (x := t) r) (k := 1) (by omega) (WB_1 (RA_bec r).1.1 (nI_rg (m := 99) (by omega) (by omega)))) (fun j hj => ?_)
      by_cases e : j = 1
      · rw [e, ud_s, kt]
      · rw [ud_n e]; exact k.1 j hj e
    have es := sum_eq (f := 2) (by omega) (RA_hours (n := n) ra).1.2
    rw [brs, brR, es]
    by_cases hs : sumF (hoursC np ne n (upd (becR t q np ne) 1 (nI m))) 2 np 0 0 < v
    · rw [if_pos hs, if_neg (Int32.not_le.mpr hs)]
      exact Q_br r m _ _ (by omega) (IK_pl (IK_thk0 k) rfl) k1 (by simp only [mJ, wr_s]; rw [ud_s])
    · rw [if_neg hs, if_pos (Int32.not_lt.mp hs)]
      exact Or.inl ⟨m, _, rfl, by omega, rfl, IK_thk0 k, k1⟩
theorem E_bears {v n : Int32} (h : Rel M) (r : RA (M.1 0) (M.1 10) np ne) : Eq2 (D_bears M np ne v n) (fun N => R_bears N np ne v n) := by
  have ea := h.2.2.1
  unfold D_bears
  cases ho : (out v 0 99999 || out n 0 48) with
  | true =>
    refine Eq2_bad h (by omega) ?_
    unfold R_bears; rw [ho]; rfl
  | false =>
    rw [cond_false]
    have key : ∀ N0 : ex_M, N0.1 10 = M.1 10 → N0.1 14 1 = -1 → (∃ k t', brs np ne (ix n) v (M.1 0) 100 (M.1 1) = (some k, t') ∧ k < 100 ∧ R_bears N0 np ne v n = (nI k, mJ (zBr N0 np ne v n).2 10 1 (N0.1 10 1)) ∧ IK (fun _ => False) N0 (mJ (zBr N0 np ne v n).2 10 1 (N0.1 10 1)) ∧ (mJ (zBr N0 np ne v n).2 10 1 (N0.1 10 1)).1 14 1 = -1) ∨ (∃ t', brs np ne (ix n) v (M.1 0) 100 (M.1 1) = (none, t') ∧ R_bears N0 np ne v n = rbad (mJ (zBr N0 np ne v n).2 10 1 (N0.1 10 1)) 3 ∧ IK (fun _ => False) N0 (mJ (zBr N0 np ne v n).2 10 1 (N0.1 10 1)) ∧ (mJ (zBr N0 np ne v n).2 10 1 (N0.1 10 1)).1 14 1 = -1) := fun N0 n1 n2 => by
      have r2 : RA (M.1 0) (N0.1 10) np ne := by rw [n1]; exact r
      have ez : zBr N0 np ne v n = brR (-1) np ne (ix n) v 100 (mJ N0 10 1 99) := by unfold zBr; rw [n2]
      have eR : R_bears N0 np ne v n = orNR (mJ (zBr N0 np ne v n).2 10 1 (N0.1 10 1)) (zBr N0 np ne v n).1 := by unfold R_bears; rw [ho, cond_false]
      rw [eR, ez]
      rcases Q_br (n := ix n) (v := v) r2 100 (M.1 1) (mJ N0 10 1 99) (by omega) (IK_pl IK.rf rfl) rfl (by simp only [mJ, wr_s]; rw [ud_s]; rfl) with ⟨k, t', h1, h2, h3, h4, h5⟩ | ⟨t', h1, h3, h4, h5⟩
      · left
        refine ⟨k, t', h1, h2, ?_, IK_no (fun j q => q.2 q.1) (IK_put h4 rfl), h5.trans n2⟩
        rw [h3, orNR_ok (by omega)]
      · right
        refine ⟨t', h1, ?_, IK_no (fun j q => q.2 q.1) (IK_put h4 rfl), h5.trans n2⟩
        rw [h3, orNR_no]
    rcases hb : brs np ne (ix n) v (M.1 0) 100 (M.1 1) with ⟨o, t'⟩
    cases o with
    | some k =>
      show Eq2 (nI k, mI M 1 t') _
      rcases key (mI M 1 t') rfl ea with ⟨k2, t2, h1, h2, h3, h4, h5⟩ | ⟨t2, h1, -⟩
      · rw [hb] at h1
        cases h1
        refine Eq2_ok h3 ?_
        exact Rel_IK (N0 := mI M 1 t') h r h.2.2.2.1 rfl rfl rfl rfl rfl rfl rfl rfl rfl rfl rfl rfl rfl h4 h5
      · rw [hb] at h1; cases h1
    | none =>
      show Eq2 (bad (mI M 1 t') 3) _
      rcases key (bad (mI M 1 t') 3).2 rfl ea with ⟨k2, t2, h1, -⟩ | ⟨t2, h1, h3, h4, h5⟩
      · rw [hb] at h1; cases h1
      · unfold Eq2
        simp only [h3]
        refine ⟨rfl, ?_⟩
        have hn : IK (fun _ => False) (rbad (bad (mI M 1 t') 3).2 3).2 (rbad (mJ (zBr (bad (mI M 1 t') 3).2 np ne v n).2 10 1 ((bad (mI M 1 t') 3).2.1 10 1)) 3).2 := by
          generalize mJ (zBr (bad (mI M 1 t') 3).2 np ne v n).2 10 1 ((bad (mI M 1 t') 3).2.1 10 1) = K at h4
          refine ⟨h4.1, fun q q1 q2 q3 => ?_, h4.2.2.1, h4.2.2.2⟩
          have e13 := h4.2.1 13 (by decide) (by decide) (by decide)
          by_cases e : q = 13
          · rw [e]; simp only [rbad, mJ, wr_s, e13]
          · simp only [rbad, mJ, wr_n e]; exact h4.2.1 q q1 q2 q3
        exact Rel_IK (N0 := (rbad (bad (mI M 1 t') 3).2 3).2) h r (RF_bad (k := 3) (by omega) h.2.2.2.1) rfl rfl rfl rfl rfl rfl rfl rfl rfl rfl rfl rfl rfl hn h5
/-- a finding told behind trials -/
theorem IK_rbad {N0 K : ex_M} {k : Nat} (h4 : IK (fun _ => False) N0 K) : IK (fun _ => False) (rbad N0 k).2 (rbad K k).2 := by
  refine ⟨h4.1, fun q q1 q2 q3 => ?_, h4.2.2.1, h4.2.2.2⟩
  have e13 := h4.2.1 13 (by decide) (by decide) (by decide)
  by_cases e : q = 13
  · rw [e]; simp only [rbad, mJ, wr_s, e13]
  · simp only [rbad, mJ, wr_n e]; exact h4.2.1 q q1 q2 q3
theorem E_sum {e n : Int32} (h : Rel M) (r : RA (M.1 0) (M.1 10) np ne) : Eq2 (D_sum M np ne e n) (fun N => R_sum N np ne e n) := by
  have e2 : M.1 10 2 = M.1 0 2 := RA_n r (by omega)
  have ea := h.2.2.1
  unfold D_sum
  cases ho : (out e 0 (M.1 0 2 - 1) || out n 0 72) with
  | true =>
    refine Eq2_bad h (by omega) ?_
    unfold R_sum; rw [show (bad M 0).2.1 10 2 = M.1 0 2 from e2, ho]; rfl
  | false =>
    obtain ⟨o1, -⟩ := Bool.or_eq_false_iff.mp ho
    obtain ⟨i, hi, rfl⟩ := out_ix r.1.1.1.2.2.1 r.1.1.1.2.2.2.1 o1
    have hne := r.1.1.1.2.2.2.1
    have ci : ix (nI i) = i := nI_clamp (by omega)
    rw [cond_false]
    have s1 := sum_eq (f := 2) (by omega) (RA_hours (n := ix n) (RA_bec (x := M.1 1) r)).1.2
    generalize hT : tSum M np ne (nI i) n = T
    have s2 : sumF (hoursR (-1) np ne (ix n) (upd ((thk (mI M 1 T) (hoursR (-1) np ne (ix n) (M.1 10))).1 10) (4 + 3 * i + 1) 0)) 2 np 0 0 = sumF T 2 np 0 0 := by
      rw [← hT]
      unfold tSum
      rw [ci]
      refine sum_eq (by omega) (RA_hours (n := ix n) ?_).1.2
      refine RA_e (RA_ext (RA_bec r) (fun j hj => thk_eq hj)) (by omega) (WB_wo (by omega) (RA_bec r).1.1 (by decide))
    refine Eq2_ok (N2 := mJ (prb (thk (mI M 1 T) (hoursR (-1) np ne (ix n) (M.1 10))) (-1) np ne (ix n) (upd ((thk (mI M 1 T) (hoursR (-1) np ne (ix n) (M.1 10))).1 10) (4 + 3 * i + 1) 0)) 10 (4 + 3 * i + 1) (M.1 10 (4 + 3 * i + 1))) ?_ ?_
    · unfold R_sum
      rw [show (mI M 1 T).1 10 = M.1 10 from rfl, e2, ho, show (mI M 1 T).1 14 1 = -1 from ea, ci, cond_false, s1, s2]; rfl
    · have k1 : IK (fun j => j = 4 + 3 * i + 1) (mI M 1 T) (thk (mI M 1 T) (hoursR (-1) np ne (ix n) (M.1 10))) := IK_thk0 IK.rf
      have k2 := IK_no (fun j q => q.2 q.1) (IK_put (v := M.1 10 (4 + 3 * i + 1)) (IK_thk (b := upd ((thk (mI M 1 T) (hoursR (-1) np ne (ix n) (M.1 10))).1 10) (4 + 3 * i + 1) 0) (c := hoursR (-1) np ne (ix n) (upd ((thk (mI M 1 T) (hoursR (-1) np ne (ix n) (M.1 10))).1 10) (4 + 3 * i + 1) 0)) k1 (fun j hj hk => ud_n hk)) rfl)
      exact Rel_IK (N0 := mI M 1 T) h r h.2.2.2.1 rfl rfl rfl rfl rfl rfl rfl rfl rfl rfl rfl rfl rfl k2 ea
end Calls5
