/-! trials one behind another, on both sides: what they bring is V of their number -/
def fB (skip : Nat → Bool) (V : Nat → Int32) : Nat → Nat → (Nat → Int32) → (Nat → Int32)
  | 0, _, c => c
  | m + 1, i, c => fB skip V m (i + 1) (bif skip i then c else bst c (nI i) (V i))
def fR (V : Nat → Int32) : Nat → Nat → Int32 × Int32 → Int32 × Int32
  | 0, _, z => z
  | m + 1, i, z => fR V m (i + 1) (if V i ≤ z.2 then z.1 else nI i, mxI z.2 (V i))
theorem lpB_2 {np ne nh n : Nat} {skip : Nat → Bool} {mu : Nat → (Nat → Int32) → (Nat → Int32)} {val : (Nat → Int32) → Int32} {q : Nat → Int32} {V : Nat → Int32} : ∀ m i z, (∀ t k, k < i + m → skip k = false → val (hoursC nh ne n (mu k (becR t q np ne))) = V k) → (lpB np ne nh n skip mu val q m i z).2 = fB skip V m i z.2
  | 0, _, _, _ => rfl
  | m + 1, i, z, h => by
    rw [lpB, fB]
    rw [lpB_2 m (i + 1) _ (fun t k hk hs => h t k (by omega) hs)]
    cases hs : skip i with
    | true => rfl
    | false => simp only [cond_false]; rw [h z.1 i (by omega) hs]
theorem bst_k {c : Nat → Int32} {x y : Int32} {k : Nat} (h1 : k ≠ 1) (h2 : k ≠ 2) : bst c x y k = c k := by
  unfold bst; split; rfl; rw [ud_n h2, ud_n h1]
theorem fB_k {skip : Nat → Bool} {V : Nat → Int32} {k : Nat} (h1 : k ≠ 1) (h2 : k ≠ 2) : ∀ m i c, fB skip V m i c k = c k
  | 0, _, _ => rfl
  | m + 1, i, c => by
    rw [fB, fB_k h1 h2 m]
    cases skip i with
    | true => rfl
    | false => exact bst_k h1 h2
/-- the best so far, on both sides; ch: none may be chosen yet -/
def CB (ch : Prop) (b0 : Int32) (c : Nat → Int32) (z : Int32 × Int32) : Prop := c 2 = z.2 ∧ -1 ≤ z.2 ∧ ((ch ∧ c 1 = -1000000004 ∧ z.1 = b0) ∨ ∃ k, k < 2 ^ 31 ∧ c 1 = nI k ∧ z.1 = nI k)
theorem mxI_le {x y : Int32} (h : y ≤ x) : mxI x y = x := by unfold mxI; rw [if_neg (Int32.not_lt.mpr h)]
theorem mxI_gt {x y : Int32} (h : ¬ y ≤ x) : mxI x y = y := by unfold mxI; rw [if_pos (Int32.not_le.mp h)]
theorem CB_fold {ch : Prop} {b0 : Int32} {skip : Nat → Bool} {V W : Nat → Int32} : ∀ m i c z, i + m < 2 ^ 31 → (∀ k, k < i + m → W k = bif skip k then -1 else V k) → CB ch b0 c z → CB ch b0 (fB skip V m i c) (fR W m i z)
  | 0, _, _, _, _, _, h => h
  | m + 1, i, c, z, hm, hw, h => by
    rw [fB, fR]
    refine CB_fold m (i + 1) _ _ (by omega) (fun k hk => hw k (by omega)) ?_
    have hi := hw i (by omega)
    cases hs : skip i with
    | true =>
      rw [hs] at hi
      simp only [cond_true] at hi ⊢
      rw [hi, if_pos h.2.1, mxI_le h.2.1]
      exact h
    | false =>
      rw [hs] at hi
      simp only [cond_false] at hi ⊢
      rw [hi]
      unfold bst
      rw [h.1]
      by_cases hv : V i ≤ z.2
      · rw [if_pos hv, if_pos hv, mxI_le hv]
        exact h
      · rw [if_neg hv, if_neg hv, mxI_gt hv]
        refine ⟨ud_s, ?_, Or.inr ⟨i, by omega, by rw [ud_n (by decide), ud_s], rfl⟩⟩
        have h2 := h.2.1
        have h3 := Int32.not_le.mp hv
        rw [Int32.le_iff_toInt_le] at h2 ⊢
        rw [Int32.lt_iff_toInt_lt] at h3
        show (-1 : Int32).toInt ≤ (V i).toInt
        omega
/-- the reference's memory while it tries: N0's, but for the places K of its row -/
def IK (K : Nat → Prop) (N0 N : ex_M) : Prop := (∀ j, j < 84 → ¬ K j → N.1 10 j = N0.1 10 j) ∧ (∀ q, q ≠ 10 → q ≠ 12 → q ≠ 14 → N.1 q = N0.1 q) ∧ (∀ k, k ≠ 1 → k ≠ 2 → N.1 14 k = N0.1 14 k) ∧ N.2 = N0.2
theorem IK.rf {K : Nat → Prop} {N : ex_M} : IK K N N := ⟨fun _ _ _ => rfl, fun _ _ _ _ => rfl, fun _ _ _ => rfl, rfl⟩
theorem IK_thk {K : Nat → Prop} {N0 N : ex_M} {b c : Nat → Int32} (h : IK K N0 N) (hb : ∀ j, j < 84 → ¬ K j → b j = N.1 10 j) : IK K N0 (thk (mI N 10 b) c) := by
  refine ⟨fun j hj hk => ?_, fun q h1 h2 h3 => ?_, fun k h1 h2 => ?_, h.2.2.2⟩
  · rw [thk_eq hj, ← h.1 j hj hk, ← hb j hj hk, mI_s]
  · rw [thk_n h1 h2, ← h.2.1 q h1 h2 h3]; exact mI_n h1
  · rw [thk_n (by decide) (by decide), ← h.2.2.1 k h1 h2]; rfl
theorem IK_14 {K : Nat → Prop} {N0 N : ex_M} {k : Nat} {v : Int32} (hk : k = 1 ∨ k = 2) (h : IK K N0 N) : IK K N0 (mJ N 14 k v) := by
  refine ⟨h.1, fun q h1 h2 h3 => ?_, fun j h1 h2 => ?_, h.2.2.2⟩
  · rw [← h.2.1 q h1 h2 h3]; simp only [mJ]; exact wr_n h3
  · rw [← h.2.2.1 j h1 h2]; simp only [mJ, wr_s]; exact ud_n (by omega)
/-- the row put back where it was tried -/
theorem Rel_IK {M N0 N : ex_M} {np ne : Nat} (h : Rel M) (r : RA (M.1 0) (M.1 10) np ne) (hF : RF (N0.1 5) (N0.1 13)) (e0 : N0.1 0 = M.1 0) (e10 : N0.1 10 = M.1 10) (e2 : N0.1 2 = M.1 2) (e11 : N0.1 11 = M.1 11) (e30 : N0.1 3 0 = M.1 3 0) (e33 : N0.1 3 3 = M.1 3 3) (e14 : N0.1 14 = M.1 14) (e4 : N0.1 4 = M.1 4) (e15 : N0.1 15 = M.1 15) (e6 : N0.1 6 = M.1 6) (e17 : N0.1 17 = M.1 17) (e18 : N0.1 18 = M.1 18) (eL : N0.2 = M.2)
    (k : IK (fun _ => False) N0 N) (ka : N.1 14 1 = -1) : Rel N := by
  have kq := k.2.1
  refine Rel_of h ⟨np, ne, ?_⟩ ?_ ?_ ?_ ?_ ?_ ?_ ?_ ?_ ?_ ?_ ?_ ?_ ?_ ?_
  · rw [kq 0 (by decide) (by decide) (by decide), e0]
    exact RA_ext r (fun j hj => by rw [k.1 j hj id, e10])
  · rw [kq 5 (by decide) (by decide) (by decide), kq 13 (by decide) (by decide) (by decide)]; exact hF
  · rw [kq 2 (by decide) (by decide) (by decide), e2]
  · rw [kq 11 (by decide) (by decide) (by decide), e11]
  · rw [kq 3 (by decide) (by decide) (by decide), e30]
  · rw [kq 3 (by decide) (by decide) (by decide), e33]
  · rw [k.2.2.1 0 (by decide) (by decide), e14]
  · rw [ka, h.2.2.1]
  · rw [k.2.2.1 3 (by decide) (by decide), e14]
  · rw [kq 4 (by decide) (by decide) (by decide), e4]
  · rw [kq 15 (by decide) (by decide) (by decide), e15]
  · rw [kq 6 (by decide) (by decide) (by decide), e6]
  · rw [kq 17 (by decide) (by decide) (by decide), e17]
  · rw [kq 18 (by decide) (by decide) (by decide), e18]
  · rw [k.2.2.2, eL]
theorem IK_put {K : Nat → Prop} {N0 N : ex_M} {pl : Nat} {v : Int32} (h : IK K N0 N) (hv : v = N0.1 10 pl) : IK (fun j => K j ∧ j ≠ pl) N0 (mJ N 10 pl v) := by
  refine ⟨fun j hj hk => ?_, fun q h1 h2 h3 => ?_, fun k h1 h2 => ?_, h.2.2.2⟩
  · simp only [mJ, wr_s]
    by_cases e : j = pl
    · rw [e, ud_s, hv]
    · rw [ud_n e]; exact h.1 j hj (fun z => hk ⟨z, e⟩)
  · rw [← h.2.1 q h1 h2 h3]; simp only [mJ]; exact wr_n h1
  · exact h.2.2.1 k h1 h2
theorem IK_no {K : Nat → Prop} {N0 N : ex_M} (hK : ∀ j, ¬ K j) (h : IK K N0 N) : IK (fun _ => False) N0 N := ⟨fun j hj _ => h.1 j hj (hK j), h.2⟩
theorem IK_14k {K : Nat → Prop} {N0 N : ex_M} {pl k : Nat} {v : Int32} (h : N.1 14 k = N0.1 14 k) : (mJ N 10 pl v).1 14 k = N0.1 14 k := h
section Loops
variable {aw : Int32} {np ne h j pl : Nat} {N0 : ex_M} {V : Nat → Int32}
theorem lpW_R (hv : ∀ i N, IK (fun k => k = pl) N0 N → hoursR aw np ne h (upd (N.1 10) pl (nI i)) (28 + 7 * j + 2) = V i) : ∀ m i z, IK (fun k => k = pl) N0 z.1 → z.1.1 14 1 = N0.1 14 1 →
    IK (fun k => k = pl) N0 (lpW aw np ne h j pl m i z).1 ∧ (lpW aw np ne h j pl m i z).1.1 14 1 = N0.1 14 1 ∧ (lpW aw np ne h j pl m i z).2 = fR V m i z.2
  | 0, _, _, k, k1 => ⟨k, k1, rfl⟩
  | m + 1, i, z, k, k1 => by
    rw [lpW, fR]
    have q := lpW_R hv m (i + 1) (prb z.1 aw np ne h (upd (z.1.1 10) pl (nI i)), if hoursR aw np ne h (upd (z.1.1 10) pl (nI i)) (28 + 7 * j + 2) ≤ z.2.2 then z.2.1 else nI i, mxI z.2.2 (hoursR aw np ne h (upd (z.1.1 10) pl (nI i)) (28 + 7 * j + 2))) (IK_thk k (fun j hj hk => ud_n hk)) k1
    refine ⟨q.1, q.2.1, ?_⟩
    rw [q.2.2, hv i z.1 k]
end Loops
theorem RA_val {a b : Nat → Int32} {np ne n j : Nat} (r : RA a b np ne) (hj : j < np) : hoursR (-1) np ne n b (28 + 7 * j + 2) = hoursC np ne n a (28 + 7 * j + 2) ∧ 0 ≤ hoursC np ne n a (28 + 7 * j + 2) := by
  have q := RA_hours (n := n) r
  exact ⟨RA_pe q hj (by omega), (q.1.1.2.2.1 j hj).2.1⟩
/-- one place of one's row tried: both sides bring the same -/
theorem RA_try {a b b2 x : Nat → Int32} {np ne i f : Nat} {v : Int32} (r : RA a b np ne) (hi : i < np) (hf : f < 7) (hw : WB (upd (becR x a np ne) (28 + 7 * i + f) v) np ne) (he : ∀ j, j < 84 → ¬ j = 28 + 7 * i + f → b2 j = b j) : RA (upd (becR x a np ne) (28 + 7 * i + f) v) (upd b2 (28 + 7 * i + f) v) np ne := by
  refine RA_ext (RA_p (RA_bec r) hi hf hw) (fun j hj => ?_)
  by_cases e : j = 28 + 7 * i + f
  · rw [e, ud_s, ud_s]
  · rw [ud_n e, ud_n e]; exact he j hj e
theorem bw_core {M : ex_M} {np ne n i f mn : Nat} (h : Rel M) (r : RA (M.1 0) (M.1 10) np ne) (hi : i < np) (hf : f < 7) (hm : 0 < mn) (hm2 : mn < 1000) (hw : ∀ (x : Nat → Int32) v, v < mn → WB (upd (becR x (M.1 0) np ne) (28 + 7 * i + f) (nI v)) np ne)
    (z : (Nat → Int32) × (Nat → Int32)) (hz : z = lpB np ne np n (fun _ => false) (fun v b => upd b (28 + 7 * i + f) (nI v)) (fun t => t (28 + 7 * i + 2)) (M.1 0) mn 0 (M.1 1, bst0 (M.1 3) (-1))) :
    (bwR (fin3 M z) (-1) np ne n i (28 + 7 * i + f) mn).1 = z.2 1 ∧ Rel (bwR (fin3 M z) (-1) np ne n i (28 + 7 * i + f) mn).2 := by
  have hV : ∀ t k, k < 0 + mn → (fun _ : Nat => false) k = false → (fun t : Nat → Int32 => t (28 + 7 * i + 2)) (hoursC np ne n ((fun v b => upd b (28 + 7 * i + f) (nI v)) k (becR t (M.1 0) np ne))) = (fun k => hoursR (-1) np ne n (upd (M.1 10) (28 + 7 * i + f) (nI k)) (28 + 7 * i + 2)) k := fun t k hk _ =>
    (RA_val (RA_try r hi hf (hw t k (by omega)) (fun _ _ _ => rfl)) hi).1.symm
  have e2 : z.2 = fB (fun _ => false) (fun k => hoursR (-1) np ne n (upd (M.1 10) (28 + 7 * i + f) (nI k)) (28 + 7 * i + 2)) mn 0 (bst0 (M.1 3) (-1)) := by rw [hz]; exact lpB_2 mn 0 _ hV
  have hv0 : ∀ k N, k < mn → IK (fun k => k = 28 + 7 * i + f) (fin3 M z) N → hoursR (-1) np ne n (upd (N.1 10) (28 + 7 * i + f) (nI k)) (28 + 7 * i + 2) = hoursR (-1) np ne n (upd (M.1 10) (28 + 7 * i + f) (nI k)) (28 + 7 * i + 2) := fun k N hk hN => by
    rw [(RA_val (RA_try (x := M.1 1) r hi hf (hw _ k hk) (fun j hj e => hN.1 j hj e)) hi).1, (RA_val (RA_try (x := M.1 1) r hi hf (hw _ k hk) (fun _ _ _ => rfl)) hi).1]
  have loop : ∀ m k w, k + m ≤ mn → IK (fun k => k = 28 + 7 * i + f) (fin3 M z) w.1 → w.1.1 14 1 = (fin3 M z).1 14 1 → IK (fun k => k = 28 + 7 * i + f) (fin3 M z) (lpW (-1) np ne n i (28 + 7 * i + f) m k w).1 ∧ (lpW (-1) np ne n i (28 + 7 * i + f) m k w).1.1 14 1 = (fin3 M z).1 14 1 ∧ (lpW (-1) np ne n i (28 + 7 * i + f) m k w).2 = fR (fun k => hoursR (-1) np ne n (upd (M.1 10) (28 + 7 * i + f) (nI k)) (28 + 7 * i + 2)) m k w.2 := by
    intro m
    induction m with
    | zero => intro k w _ h1 h2; exact ⟨h1, h2, rfl⟩
    | succ m ih =>
      intro k w hk h1 h2
      rw [lpW, fR, hv0 k w.1 (by omega) h1]
      exact ih (k + 1) _ (by omega) (IK_thk h1 (fun j hj hk => ud_n hk)) h2
  obtain ⟨l1, l2, l3⟩ := loop mn 0 (fin3 M z, 0, -1) (by omega) IK.rf rfl
  have hc : CB False 0 z.2 (fR (fun k => hoursR (-1) np ne n (upd (M.1 10) (28 + 7 * i + f) (nI k)) (28 + 7 * i + 2)) mn 0 (0, -1)) := by
    rw [e2]
    obtain ⟨m, rfl⟩ : ∃ m, mn = m + 1 := ⟨mn - 1, by omega⟩
    rw [fB, fR]
    refine CB_fold m 1 _ _ (by omega) (fun k hk => rfl) ?_
    have p0 := (RA_val (n := n) (RA_try (x := M.1 1) r hi hf (hw _ 0 (by omega)) (fun _ _ _ => rfl)) hi)
    have p1 : 0 ≤ hoursR (-1) np ne n (upd (M.1 10) (28 + 7 * i + f) (nI 0)) (28 + 7 * i + 2) := by rw [p0.1]; exact p0.2
    generalize hoursR (-1) np ne n (upd (M.1 10) (28 + 7 * i + f) (nI 0)) (28 + 7 * i + 2) = y at p1
    have p2 : ¬ y ≤ -1 := fun q => by
      rw [Int32.le_iff_toInt_le] at p1 q
      have : (0 : Int32).toInt = 0 := rfl
      have : (-1 : Int32).toInt = -1 := rfl
      omega
    rw [cond_false]
    unfold bst
    rw [show bst0 (M.1 3) (-1) 2 = -1 from rfl, if_neg p2, if_neg p2, mxI_gt p2]
    refine ⟨ud_s, ?_, Or.inr ⟨0, by omega, by rw [ud_n (by decide), ud_s], rfl⟩⟩
    have := Int32.not_le.mp p2
    exact Int32.le_of_lt this
  refine ⟨?_, ?_⟩
  · show (lpW (-1) np ne n i (28 + 7 * i + f) mn 0 (fin3 M z, 0, -1)).2.1 = z.2 1
    rw [l3]
    rcases hc.2.2 with q | ⟨k, -, q1, q2⟩
    · exact absurd q.1 id
    · rw [q1, q2]
  · have k2 := IK_no (fun j q => q.2 q.1) (IK_put (v := (fin3 M z).1 10 (28 + 7 * i + f)) l1 rfl)
    exact Rel_IK (N0 := fin3 M z) h r h.2.2.2.1 rfl rfl rfl rfl (by show z.2 0 = _; rw [e2, fB_k (by decide) (by decide)]; rfl) (by show z.2 3 = _; rw [e2, fB_k (by decide) (by decide)]; rfl) rfl rfl rfl rfl rfl rfl rfl k2 (l2.trans h.2.2.1)
section Calls4
variable {M : ex_M} {np ne : Nat}
theorem WB_bec {x a b : Nat → Int32} (r : RA a b np ne) : WB (becR x a np ne) np ne := (RA_bec r).1.1
theorem E_bank {p n : Int32} (h : Rel M) (r : RA (M.1 0) (M.1 10) np ne) : Eq2 (D_bank M np ne p n) (fun N => R_bank N np ne p n) := by
  have e3 : M.1 10 3 = M.1 0 3 := r.2
  have ea := h.2.2.1
  unfold D_bank D_noOne
  cases ho : (out p 0 (M.1 0 3 - 1) || out n 0 72) with
  | true =>
    refine Eq2_bad h (by omega) ?_
    unfold R_bank; rw [show (bad M 0).2.1 10 3 = M.1 0 3 from e3, ho]; rfl
  | false =>
    obtain ⟨o1, -⟩ := Bool.or_eq_false_iff.mp ho
    obtain ⟨i, hi, rfl⟩ := out_ix r.1.1.1.1 r.1.1.1.2.1 o1
    have hnp := r.1.1.1.2.1
    have ci : ix (nI i) = i := nI_clamp (by omega)
    rw [cond_false]
    have k := bw_core (n := ix n) (i := i) (f := 1) (mn := 2) h r hi (by omega) (by omega) (by omega) (fun x v hv => WB_bk (WB_bec r) (by rcases (by omega : v = 0 ∨ v = 1) with z | z <;> subst z <;> decide)) (zBank M np ne (nI i) n) (by unfold zBank; rw [ci])
    have e : R_bank (fin3 M (zBank M np ne (nI i) n)) np ne (nI i) n = bwR (fin3 M (zBank M np ne (nI i) n)) (-1) np ne (ix n) i (28 + 7 * i + 1) 2 := by
      unfold R_bank
      rw [show (fin3 M (zBank M np ne (nI i) n)).1 10 3 = M.1 0 3 from e3, ho, show (fin3 M (zBank M np ne (nI i) n)).1 14 1 = -1 from ea, ci]; rfl
    unfold Eq2
    simp only [e]
    exact k
theorem E_kind {p n : Int32} (h : Rel M) (r : RA (M.1 0) (M.1 10) np ne) : Eq2 (D_kind M np ne p n) (fun N => R_kind N np ne p n) := by
  have e3 : M.1 10 3 = M.1 0 3 := r.2
  have ea := h.2.2.1
  unfold D_kind D_noOne
  cases ho : (out p 0 (M.1 0 3 - 1) || out n 0 72) with
  | true =>
    refine Eq2_bad h (by omega) ?_
    unfold R_kind; rw [show (bad M 0).2.1 10 3 = M.1 0 3 from e3, ho]; rfl
  | false =>
    obtain ⟨o1, -⟩ := Bool.or_eq_false_iff.mp ho
    obtain ⟨i, hi, rfl⟩ := out_ix r.1.1.1.1 r.1.1.1.2.1 o1
    have hnp := r.1.1.1.2.1
    have ci : ix (nI i) = i := nI_clamp (by omega)
    rw [cond_false]
    have k := bw_core (n := ix n) (i := i) (f := 0) (mn := 6) h r hi (by omega) (by omega) (by omega) (fun x v hv => WB_kd (WB_bec r) ⟨v, hv, rfl⟩) (zKind M np ne (nI i) n) (by unfold zKind; rw [ci])
    have e : R_kind (fin3 M (zKind M np ne (nI i) n)) np ne (nI i) n = bwR (fin3 M (zKind M np ne (nI i) n)) (-1) np ne (ix n) i (28 + 7 * i + 0) 6 := by
      unfold R_kind
      rw [show (fin3 M (zKind M np ne (nI i) n)).1 10 3 = M.1 0 3 from e3, ho, show (fin3 M (zKind M np ne (nI i) n)).1 14 1 = -1 from ea, ci]; rfl
    unfold Eq2
    simp only [e]
    exact k
end Calls4
