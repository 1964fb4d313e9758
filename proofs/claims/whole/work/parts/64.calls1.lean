/-! calls that ask or set, on both sides -/
theorem Eq2_bad {M : ex_M} {k : Nat} {r : ex_M → Int32 × ex_M} (h : Rel M) (hk : k < 7) (q : r (bad M k).2 = rbad (bad M k).2 k) : Eq2 (bad M k) r := by
  unfold Eq2; rw [q]; exact Rel_bad hk h
theorem Eq2_ok {α : Type} {v : α} {N N2 : ex_M} {r : ex_M → α × ex_M} (q : r N = (v, N2)) (h : Rel N2) : Eq2 (v, N) r := by
  unfold Eq2; simp only [q]; exact ⟨trivial, h⟩
theorem setF_ext {p q : Nat → Bool} : ∀ m i s, (∀ j, j < i + m → p j = q j) → setF p m i s = setF q m i s
  | 0, _, _, _ => rfl
  | m + 1, i, s, h => by rw [setF, setF, h i (by omega), setF_ext m (i + 1) _ (fun j hj => h j (by omega))]
theorem sumF_ext {a b : Nat → Int32} {f : Nat} : ∀ m i s, (∀ j, j < i + m → a (28 + 7 * j + f) = b (28 + 7 * j + f)) → sumF a f m i s = sumF b f m i s
  | 0, _, _, _ => rfl
  | m + 1, i, s, h => by rw [sumF, sumF, h i (by omega), sumF_ext m (i + 1) _ (fun j hj => h j (by omega))]
theorem cntF_ext {a b : Nat → Int32} : ∀ m i s, (∀ j, j < i + m → a (28 + 7 * j + 6) = b (28 + 7 * j + 6)) → cntF a m i s = cntF b m i s
  | 0, _, _, _ => rfl
  | m + 1, i, s, h => by rw [cntF, cntF, h i (by omega), cntF_ext m (i + 1) _ (fun j hj => h j (by omega))]
section Both
variable {a b : Nat → Int32} {np ne : Nat}
theorem who_eq {e : Int32} (q : Qr (fun i => i) np ne a b) : whoR b np e = whoK a np e := by
  unfold whoR whoK
  exact setF_ext np 0 0 (fun j hj => by rw [hs1_hb, q.2.2 j 6 (by omega) (by omega)])
theorem lft_eq (q : Qr (fun i => i) np ne a b) : lftS b np = lftS a np := by
  unfold lftS
  exact setF_ext np 0 0 (fun j hj => by rw [q.2.2 j 1 (by omega) (by omega)])
theorem met_eq {s : Nat → Nat} {nc : Nat} (w : WB a nc ne) (q : Qr s nc ne a b) : metR b ne = metS a ne := by
  unfold metR metS
  refine setF_ext ne 0 0 (fun j hj => ?_)
  rw [← q.2.1 (4 + 3 * j + 2) (by omega) (by omega)]
  rcases w.1.2.2.2.2.1 j (by omega) with z | z <;> rw [z] <;> decide
theorem sum_eq {f : Nat} (hf : f < 7) (q : Qr (fun i => i) np ne a b) : sumF b f np 0 0 = sumF a f np 0 0 := sumF_ext np 0 0 (fun j hj => (q.2.2 j f (by omega) hf).symm)
end Both
theorem mx_1 (y : Int32) : (if -1 < y then y else -1) = (if y < -1 then -1 else y) := by
  by_cases h1 : -1 < y
  · rw [if_pos h1, if_neg (fun z => by rw [Int32.lt_iff_toInt_lt] at h1 z; omega)]
  · rw [if_neg h1]
    by_cases h2 : y < -1
    · rw [if_pos h2]
    · rw [if_neg h2]
      apply Int32.toInt_inj.mp
      rw [Int32.lt_iff_toInt_lt] at h1 h2
      omega
theorem out5 {w : Int32} (h0 : ¬ w = 0) (h1 : ¬ w = 1) (h2 : ¬ w = 2) (h3 : ¬ w = 3) (h4 : ¬ w = 4) (h5 : ¬ w = 5) : out w 0 5 = true := by
  cases ho : out w 0 5 with
  | true => rfl
  | false =>
    obtain ⟨i, hi, rfl⟩ := out_nat (n := 5) (by decide) ho
    rcases (by omega : i = 0 ∨ i = 1 ∨ i = 2 ∨ i = 3 ∨ i = 4 ∨ i = 5) with z | z | z | z | z | z <;> subst z
    · exact absurd rfl h0
    · exact absurd rfl h1
    · exact absurd rfl h2
    · exact absurd rfl h3
    · exact absurd rfl h4
    · exact absurd rfl h5
theorem sub24 (x y : Int32) : x - y + 24 = x + 24 - y := by
  rw [Int32.sub_eq_add_neg, Int32.sub_eq_add_neg, Int32.add_assoc, Int32.add_comm (-y) 24, ← Int32.add_assoc]
section Calls2
variable {M : ex_M} {np ne : Nat}
theorem E_eventOf {e w : Int32} (h : Rel M) (r : RA (M.1 0) (M.1 10) np ne) : Eq2 (D_eventOf M np e w) (fun N => R_eventOf N np e w) := by
  have e2 : M.1 10 2 = M.1 0 2 := RA_n r (by omega)
  have e0 : M.1 10 0 = M.1 0 0 := RA_n r (by omega)
  unfold D_eventOf
  cases ho : out e 0 (M.1 0 2 - 1) with
  | true =>
    refine Eq2_bad h (by omega) ?_
    unfold R_eventOf
    rw [show (bad M 0).2.1 10 2 = M.1 0 2 from e2, ho]; rfl
  | false =>
    obtain ⟨i, hi, rfl⟩ := out_ix r.1.1.1.2.2.1 r.1.1.1.2.2.2.1 ho
    have hne := r.1.1.1.2.2.2.1
    have ci : ix (nI i) = i := nI_clamp (by omega)
    have hm := r.1.1.1.2.2.2.2.1 i hi
    rw [cond_false]
    by_cases h0 : w = 0
    · subst h0
      rw [if_pos rfl]
      refine Eq2_ok (N2 := M) ?_ h
      unfold R_eventOf
      rw [e2, ho, show out 0 0 5 = false by decide, if_neg (by decide), if_neg (by decide), if_neg (by decide), ci]
      rw [show ix (0 : Int32) = 0 from rfl, RA_ev r hi (by omega)]; rfl
    · rw [if_neg h0]
      by_cases h1 : w = 1
      · subst h1
        rw [if_pos rfl]
        refine Eq2_ok (N2 := M) ?_ h
        unfold R_eventOf
        rw [e2, ho, show out 1 0 5 = false by decide, if_neg (by decide), if_neg (by decide), if_neg (by decide), ci]
        rw [show ix (1 : Int32) = 1 from rfl, RA_ev r hi (by omega)]; rfl
      · rw [if_neg h1]
        by_cases h2 : w = 2
        · subst h2
          rw [if_pos rfl]
          refine Eq2_ok (N2 := M) ?_ h
          unfold R_eventOf
          rw [e2, ho, show out 2 0 5 = false by decide, if_neg (by decide), if_neg (by decide), if_neg (by decide), ci]
          rw [show ix (2 : Int32) = 2 from rfl, RA_ev r hi (by omega)]
          rcases hm with z | z <;> rw [z] <;> rfl
        · rw [if_neg h2]
          by_cases h3 : w = 3
          · subst h3
            rw [if_pos rfl]
            refine Eq2_ok (N2 := M) ?_ h
            unfold R_eventOf
            rw [e2, ho, show out 3 0 5 = false by decide, if_pos rfl, who_eq r.1.2]; rfl
          · rw [if_neg h3]
            by_cases h4 : w = 4
            · subst h4
              rw [if_pos rfl]
              refine Eq2_ok (N2 := M) ?_ h
              unfold R_eventOf hToR
              rw [e2, ho, show out 4 0 5 = false by decide, if_neg (by decide), if_pos rfl, ci, mx_1, RA_ev r hi (by omega), e0]; rfl
            · rw [if_neg h4]
              by_cases h5 : w = 5
              · subst h5
                rw [if_pos rfl]
                refine Eq2_ok (N2 := M) ?_ h
                unfold R_eventOf hToL
                rw [e2, ho, show out 5 0 5 = false by decide, if_neg (by decide), if_neg (by decide), if_pos rfl, ci, mx_1, RA_ev r hi (by omega), RA_ev r hi (by omega), e0, sub24]
                rcases hm with z | z <;> rw [z] <;> rfl
              · rw [if_neg h5]
                refine Eq2_bad h (by omega) ?_
                unfold R_eventOf
                rw [show (bad M 0).2.1 10 2 = M.1 0 2 from e2, ho, out5 h0 h1 h2 h3 h4 h5]; rfl
theorem E_worth {e v : Int32} (h : Rel M) (r : RA (M.1 0) (M.1 10) np ne) : Eq2 (D_worth M e v) (fun N => R_worth N e v) := by
  have e2 : M.1 10 2 = M.1 0 2 := RA_n r (by omega)
  unfold D_worth
  cases ho : (out e 0 (M.1 0 2 - 1) || out v (-99) 99) with
  | true =>
    refine Eq2_bad h (by omega) ?_
    unfold R_worth
    rw [show (bad M 0).2.1 10 2 = M.1 0 2 from e2, ho]; rfl
  | false =>
    obtain ⟨o1, o2⟩ := Bool.or_eq_false_iff.mp ho
    obtain ⟨i, hi, rfl⟩ := out_ix r.1.1.1.2.2.1 r.1.1.1.2.2.2.1 o1
    have hne := r.1.1.1.2.2.2.1
    have ci : ix (nI i) = i := nI_clamp (by omega)
    refine Eq2_ok (N2 := mI (mI M 0 (upd (M.1 0) (4 + 3 * i + 1) v)) 10 (upd (M.1 10) (4 + 3 * i + 1) v)) ?_ (Rel_A h (RA_e r (by omega) (WB_wo (by omega) r.1.1 (out_rg o2))))
    unfold R_worth
    rw [show (mJ M 0 (4 + 3 * ix (nI i) + 1) v).1 10 2 = M.1 0 2 from e2, ho, ci, show (mJ M 0 (4 + 3 * i + 1) v).1 10 (4 + 3 * i + 1) = M.1 10 (4 + 3 * i + 1) from rfl, RA_ev r hi (by omega)]; rfl
theorem E_of {p w : Int32} (h : Rel M) (r : RA (M.1 0) (M.1 10) np ne) : Eq2 (D_of M p w) (fun N => R_of N p w) := by
  have e3 : M.1 10 3 = M.1 0 3 := r.2
  unfold D_of
  cases ho : out p 0 (M.1 0 3 - 1) with
  | true =>
    refine Eq2_bad h (by omega) ?_
    unfold R_of
    rw [show (bad M 0).2.1 10 3 = M.1 0 3 from e3, ho]; rfl
  | false =>
    rw [cond_false]
    obtain ⟨i, hi, rfl⟩ := out_ix r.1.1.1.1 r.1.1.1.2.1 ho
    have hnp := r.1.1.1.2.1
    have ci : ix (nI i) = i := nI_clamp (by omega)
    cases hw : out w 0 6 with
    | true =>
      refine Eq2_bad h (by omega) ?_
      unfold R_of
      rw [show (bad M 0).2.1 10 3 = M.1 0 3 from e3, ho, hw]; rfl
    | false =>
      obtain ⟨f, hf, rfl⟩ := out_nat (n := 6) (by decide) hw
      have cf : ix (nI f) = f := nI_clamp (by omega)
      refine Eq2_ok (N2 := M) ?_ h
      unfold R_of
      rw [e3, ho, hw, ci, cf, RA_pe r hi (by omega)]; rfl
theorem shl8 : ∀ i, i ≤ 8 → ((1 : Int32) <<< (nI i &&& 31)) - 1 = nI (2 ^ i - 1) ∧ 2 ^ i - 1 < 256 := by decide +kernel
theorem E_set {p w v : Int32} (h : Rel M) (r : RA (M.1 0) (M.1 10) np ne) : Eq2 (D_set M p w v) (fun N => R_set N p w v) := by
  have e3 : M.1 10 3 = M.1 0 3 := r.2
  have e2 : M.1 10 2 = M.1 0 2 := RA_n r (by omega)
  unfold D_set
  cases ho : out p 0 (M.1 0 3 - 1) with
  | true =>
    refine Eq2_bad h (by omega) ?_
    unfold R_set
    rw [show (bad M 0).2.1 10 3 = M.1 0 3 from e3, ho]
    first | rw [cond_false, cond_false] | rw [cond_false, cond_true] | rw [cond_true] | skip
    try rfl
  | false =>
    rw [cond_false]
    obtain ⟨i, hi, rfl⟩ := out_ix r.1.1.1.1 r.1.1.1.2.1 ho
    have hnp := r.1.1.1.2.1
    have ci : ix (nI i) = i := nI_clamp (by omega)
    cases hm : may (M.1 0 2) w v with
    | false =>
      rw [cond_false]
      refine Eq2_bad h (by omega) ?_
      unfold R_set
      rw [show (bad M 0).2.1 10 3 = M.1 0 3 from e3, ho, show (bad M 0).2.1 10 2 = M.1 0 2 from e2, hm]
      first | rw [cond_false, cond_false] | rw [cond_false, cond_true] | rw [cond_true] | skip
      try rfl
    | true =>
      have key : ∃ f, f < 7 ∧ w = nI f ∧ WB (upd (M.1 0) (28 + 7 * i + f) v) np ne := by
        unfold may at hm
        by_cases w1 : w = 1
        · rw [if_pos w1] at hm
          have hm1 : out v 0 1 = false := by simpa using hm
          obtain ⟨j, hj, rfl⟩ := out_nat (n := 1) (by decide) hm1
          exact ⟨1, by omega, w1, WB_bk r.1.1 (by rcases (by omega : j = 0 ∨ j = 1) with z | z <;> subst z <;> decide)⟩
        · rw [if_neg w1] at hm
          by_cases w2 : w = 2
          · rw [if_pos w2] at hm
            exact ⟨2, by omega, w2, WB_pu r.1.1 (out_rg (by simpa using hm))⟩
          · rw [if_neg w2] at hm
            by_cases w3 : w = 3
            · exact ⟨3, by omega, w3, WB_fr r.1.1 (by omega)⟩
            · rw [if_neg w3] at hm
              by_cases w4 : w = 4
              · exact ⟨4, by omega, w4, WB_fr r.1.1 (by omega)⟩
              · rw [if_neg w4] at hm
                by_cases w6 : w = 6
                · rw [if_pos w6, r.1.1.1.2.2.1] at hm
                  obtain ⟨s1, s2⟩ := shl8 ne r.1.1.1.2.2.2.1
                  rw [s1] at hm
                  obtain ⟨j, hj, rfl⟩ := out_nat (n := 2 ^ ne - 1) (by omega) (by simpa using hm)
                  exact ⟨6, by omega, w6, WB_kn r.1.1 ⟨j, by omega, rfl⟩⟩
                · rw [if_neg w6] at hm; cases hm
      obtain ⟨f, hf, rfl, hW⟩ := key
      have cf : ix (nI f) = f := nI_clamp (by omega)
      rw [cond_true]
      refine Eq2_ok (N2 := mI (mI M 0 (upd (M.1 0) (28 + 7 * i + f) v)) 10 (upd (M.1 10) (28 + 7 * i + f) v)) ?_ (Rel_A h (RA_p r hi hf hW))
      unfold R_set
      rw [show (mJ M 0 (28 + 7 * ix (nI i) + ix (nI f)) v).1 10 3 = M.1 0 3 from e3, ho, show (mJ M 0 (28 + 7 * ix (nI i) + ix (nI f)) v).1 10 2 = M.1 0 2 from e2, hm, ci, cf, show (mJ M 0 (28 + 7 * i + f) v).1 10 (28 + 7 * i + f) = M.1 10 (28 + 7 * i + f) from rfl, RA_pe r hi hf]
      first | rw [cond_false, cond_false] | rw [cond_false, cond_true] | rw [cond_true] | skip
      try rfl
theorem E_turn {p k : Int32} (h : Rel M) (r : RA (M.1 0) (M.1 10) np ne) : Eq2 (D_turn M p k) (fun N => R_turn N p k) := by
  have e3 : M.1 10 3 = M.1 0 3 := r.2
  unfold D_turn
  cases ho : (out p 0 (M.1 0 3 - 1) || out k 0 5) with
  | true =>
    refine Eq2_bad h (by omega) ?_
    unfold R_turn
    rw [show (bad M 0).2.1 10 3 = M.1 0 3 from e3, ho]; rfl
  | false =>
    obtain ⟨o1, o2⟩ := Bool.or_eq_false_iff.mp ho
    obtain ⟨i, hi, rfl⟩ := out_ix r.1.1.1.1 r.1.1.1.2.1 o1
    obtain ⟨j, hj, rfl⟩ := out_nat (n := 5) (by decide) o2
    have hnp := r.1.1.1.2.1
    have ci : ix (nI i) = i := nI_clamp (by omega)
    refine Eq2_ok (N2 := mI (mI M 0 (upd (M.1 0) (28 + 7 * i + 0) (nI j))) 10 (upd (M.1 10) (28 + 7 * i + 0) (nI j))) ?_ (Rel_A h (RA_p r hi (by omega) (WB_kd r.1.1 ⟨j, by omega, rfl⟩)))
    unfold R_turn
    rw [show (mJ M 0 (28 + 7 * ix (nI i) + 0) (nI j)).1 10 3 = M.1 0 3 from e3, ho, ci, show (mJ M 0 (28 + 7 * i + 0) (nI j)).1 10 (28 + 7 * i + 0) = M.1 10 (28 + 7 * i + 0) from rfl, RA_pe r hi (by omega)]; rfl
theorem E_as {p k : Int32} (h : Rel M) (r : RA (M.1 0) (M.1 10) np ne) : Eq2 (D_as M p k) (fun N => R_as N p k) := by
  have e3 : M.1 10 3 = M.1 0 3 := r.2
  unfold D_as
  cases ho : (out p 0 (M.1 0 3 - 1) || out k 0 5) with
  | true =>
    refine Eq2_bad h (by omega) ?_
    unfold R_as
    rw [show (bad M 0).2.1 10 3 = M.1 0 3 from e3, ho]
    first | rw [cond_false, cond_false] | rw [cond_false, cond_true] | rw [cond_true] | skip
    try rfl
  | false =>
    obtain ⟨o1, o2⟩ := Bool.or_eq_false_iff.mp ho
    obtain ⟨i, hi, rfl⟩ := out_ix r.1.1.1.1 r.1.1.1.2.1 o1
    have hnp := r.1.1.1.2.1
    have ci : ix (nI i) = i := nI_clamp (by omega)
    rw [cond_false]
    cases hu : undF 6 (M.1 0 (28 + 7 * ix (nI i) + 0)) k with
    | true =>
      rw [cond_true]
      refine Eq2_ok (N2 := M) ?_ h
      rw [ci] at hu ⊢
      unfold R_as
      rw [e3, ho, ci, RA_pe r hi (by omega), RA_pe r hi (by omega), hu]
      first | rw [cond_false, cond_false] | rw [cond_false, cond_true] | rw [cond_true] | skip
      try rfl
    | false =>
      rw [cond_false]
      refine Eq2_bad h (by omega) ?_
      rw [ci] at hu
      unfold R_as
      rw [show (bad M 2).2.1 10 3 = M.1 0 3 from e3, ho, ci, show (bad M 2).2.1 10 (28 + 7 * i + 0) = M.1 0 (28 + 7 * i + 0) from RA_pe r hi (by omega), hu]
      first | rw [cond_false, cond_false] | rw [cond_false, cond_true] | rw [cond_true] | skip
      try rfl
theorem E_gains {p w k : Int32} (h : Rel M) (r : RA (M.1 0) (M.1 10) np ne) : Eq2 (D_gains M p w k) (fun N => R_gains N p w k) := by
  have e3 : M.1 10 3 = M.1 0 3 := r.2
  unfold D_gains
  cases ho : (out p 0 (M.1 0 3 - 1) || (out w (-99) 99 || out k 0 1)) with
  | true =>
    refine Eq2_bad h (by omega) ?_
    unfold R_gains
    rw [show (bad M 0).2.1 10 3 = M.1 0 3 from e3, ho]; rfl
  | false =>
    obtain ⟨o1, o2⟩ := Bool.or_eq_false_iff.mp ho
    obtain ⟨o3, o4⟩ := Bool.or_eq_false_iff.mp o2
    obtain ⟨i, hi, rfl⟩ := out_ix r.1.1.1.1 r.1.1.1.2.1 o1
    have hnp := r.1.1.1.2.1
    have ci : ix (nI i) = i := nI_clamp (by omega)
    refine Eq2_ok (N2 := M) ?_ h
    unfold R_gains
    rw [e3, ho, ci, RA_pe r hi (by omega), gain_eq (r.1.1.1.2.2.2.2.2.1 i hi) (out_rg o3).1 (out_rg o3).2]; rfl
theorem oOvR_lo {b : Nat → Int32} {i q : Nat} (h : q < 28) : oOvR b i q = b q := by unfold oOvR oPay; rw [ud_n (by omega), ud_n (by omega), ud_n (by omega)]
theorem E_cross {p : Int32} (h : Rel M) (r : RA (M.1 0) (M.1 10) np ne) : Eq2 (D_cross M p) (fun N => R_cross N p) := by
  have e3 : M.1 10 3 = M.1 0 3 := r.2
  unfold D_cross
  cases ho : out p 0 (M.1 0 3 - 1) with
  | true =>
    refine Eq2_bad h (by omega) ?_
    unfold R_cross
    rw [show (bad M 0).2.1 10 3 = M.1 0 3 from e3, ho]
    first | rw [cond_false, cond_false] | rw [cond_false, cond_true] | rw [cond_true] | skip
    try rfl
  | false =>
    rw [cond_false]
    obtain ⟨i, hi, rfl⟩ := out_ix r.1.1.1.1 r.1.1.1.2.1 ho
    have hnp := r.1.1.1.2.1
    have ci : ix (nI i) = i := nI_clamp (by omega)
    rw [ci]
    have ep : pays (M.1 10) i = pays (M.1 0) i := by unfold pays; rw [RA_pe r hi (by omega), RA_n r (by omega)]
    cases hp : pays (M.1 0) i with
    | false =>
      rw [cond_false]
      refine Eq2_bad h (by omega) ?_
      unfold R_cross
      rw [show (bad M 4).2.1 10 3 = M.1 0 3 from e3, ho, ci, show pays ((bad M 4).2.1 10) i = false from ep.trans hp]
      first | rw [cond_false, cond_false] | rw [cond_false, cond_true] | rw [cond_true] | skip
      try rfl
    | true =>
      have q := Q_over (SG_id hnp) hi r.1 hp
      rw [cond_true]
      refine Eq2_ok (N2 := mI (mI M 0 (oOver (M.1 0) i (M.1 0 1))) 10 (oOvR (M.1 10) i)) ?_ (Rel_A h ⟨q, by rw [oOvR_lo (by omega), oOver_lo (by omega)]; exact e3⟩)
      unfold R_cross
      rw [show (mI M 0 (oOver (M.1 0) i (M.1 0 1))).1 10 3 = M.1 0 3 from e3, ho, ci, show pays ((mI M 0 (oOver (M.1 0) i (M.1 0 1))).1 10) i = true from ep.trans hp, show (mI M 0 (oOver (M.1 0) i (M.1 0 1))).1 10 (28 + 7 * i + 1) = M.1 0 (28 + 7 * i + 1) from RA_pe r hi (by omega)]
      rw [cond_false, cond_true]
      rcases (r.1.1.2.2.1 i hi).1 with z | z <;> rw [z] <;> rfl
theorem b2n_all : ∀ x y : Bool, (if (y && (x ^^ true)) = true then 1 else 0) + (if x = true then 1 else 0) = (if (x || y) = true then 1 else 0) := by decide
theorem popc_sum (k : Nat) : popc k = (if k.testBit 0 = true then 1 else 0) + (if k.testBit 1 = true then 1 else 0) + (if k.testBit 2 = true then 1 else 0) + (if k.testBit 3 = true then 1 else 0) + (if k.testBit 4 = true then 1 else 0) + (if k.testBit 5 = true then 1 else 0) + (if k.testBit 6 = true then 1 else 0) + (if k.testBit 7 = true then 1 else 0) := by
  unfold popc
  rw [show List.range 8 = [0, 1, 2, 3, 4, 5, 6, 7] from rfl]
  simp only [List.countP_cons, List.countP_nil]
  omega
theorem bit255 : ∀ t, t < 8 → (255 : Nat).testBit t = true := by decide
theorem popc_new {i j : Nat} : popc (j &&& (i ^^^ 255)) + popc i = popc (i ||| j) := by
  have e : ∀ t, t < 8 → (if (j &&& (i ^^^ 255)).testBit t = true then 1 else 0) + (if i.testBit t = true then 1 else 0) = (if (i ||| j).testBit t = true then 1 else 0) := fun t ht => by
    rw [Nat.testBit_and, Nat.testBit_xor, Nat.testBit_or, bit255 t ht]
    exact b2n_all _ _
  rw [popc_sum, popc_sum i, popc_sum (i ||| j)]
  have e0 := e 0 (by omega)
  have e1 := e 1 (by omega)
  have e2 := e 2 (by omega)
  have e3 := e 3 (by omega)
  have e4 := e 4 (by omega)
  have e5 := e 5 (by omega)
  have e6 := e 6 (by omega)
  have e7 := e 7 (by omega)
  omega
theorem or_new {i j : Nat} (hj : j < 256) : i ||| (j &&& (i ^^^ 255)) = i ||| j := by
  apply Nat.eq_of_testBit_eq
  intro t
  rw [Nat.testBit_or, Nat.testBit_or, Nat.testBit_and, Nat.testBit_xor]
  by_cases ht : t < 8
  · rw [bit255 t ht]
    cases i.testBit t <;> cases j.testBit t <;> rfl
  · have : j.testBit t = false := Nat.testBit_lt_two_pow (Nat.lt_of_lt_of_le hj (by rw [show 256 = 2 ^ 8 from rfl]; exact Nat.pow_le_pow_right (by omega) (by omega)))
    rw [this]; rfl
theorem fresh_eq {i j : Nat} (hi : i < 256) (hj : j < 256) : nI j &&& (nI i ^^^ (-1)) = nI (j &&& (i ^^^ 255)) := by
  apply Int32.toBitVec_inj.mp
  apply BitVec.eq_of_toNat_eq
  show (BitVec.ofNat 32 j &&& (BitVec.ofNat 32 i ^^^ BitVec.allOnes 32)).toNat = (BitVec.ofNat 32 (j &&& (i ^^^ 255))).toNat
  rw [BitVec.toNat_and, BitVec.toNat_xor, BitVec.toNat_ofNat, BitVec.toNat_ofNat, BitVec.toNat_ofNat, BitVec.toNat_allOnes, Nat.mod_eq_of_lt (by omega), Nat.mod_eq_of_lt (by omega)]
  have hl : j &&& (i ^^^ 255) < 256 := Nat.lt_of_le_of_lt Nat.and_le_left hj
  rw [Nat.mod_eq_of_lt (by omega)]
  apply Nat.eq_of_testBit_eq
  intro t
  rw [Nat.testBit_and, Nat.testBit_and, Nat.testBit_xor, Nat.testBit_xor, Nat.testBit_two_pow_sub_one]
  by_cases ht : t < 8
  · rw [bit255 t ht, decide_eq_true (by omega)]
  · have : j.testBit t = false := Nat.testBit_lt_two_pow (Nat.lt_of_lt_of_le hj (by rw [show 256 = 2 ^ 8 from rfl]; exact Nat.pow_le_pow_right (by omega) (by omega)))
    rw [this, Bool.false_and, Bool.false_and]
theorem E_tells {p q : Int32} (h : Rel M) (r : RA (M.1 0) (M.1 10) np ne) : Eq2 (D_tells M p q) (fun N => R_tells N p q) := by
  have e3 : M.1 10 3 = M.1 0 3 := r.2
  unfold D_tells
  cases ho : (out p 0 (M.1 0 3 - 1) || (out q 0 (M.1 0 3 - 1) || decide (p = q))) with
  | true =>
    refine Eq2_bad h (by omega) ?_
    unfold R_tells
    rw [show (bad M 0).2.1 10 3 = M.1 0 3 from e3, ho]; rfl
  | false =>
    rw [cond_false]
    obtain ⟨o1, o2⟩ := Bool.or_eq_false_iff.mp ho
    obtain ⟨o3, o4⟩ := Bool.or_eq_false_iff.mp o2
    obtain ⟨i, hi, rfl⟩ := out_ix r.1.1.1.1 r.1.1.1.2.1 o1
    obtain ⟨j, hj, rfl⟩ := out_ix r.1.1.1.1 r.1.1.1.2.1 o3
    have hnp := r.1.1.1.2.1
    have ci : ix (nI i) = i := nI_clamp (by omega)
    have cj : ix (nI j) = j := nI_clamp (by omega)
    rw [ci, cj]
    by_cases hb : M.1 0 (28 + 7 * i + 1) = M.1 0 (28 + 7 * j + 1)
    · rw [if_pos hb]
      obtain ⟨x, hx, ex⟩ := r.1.1.1.2.2.2.2.2.2 i hi
      obtain ⟨y, hy, ey⟩ := r.1.1.1.2.2.2.2.2.2 j hj
      have fe := fresh_eq hy hx
      have hl : x &&& (y ^^^ 255) < 256 := Nat.lt_of_le_of_lt Nat.and_le_left hx
      have ho2 : y ||| x < 256 := or_small hy hx
      rw [ex, ey, fe, fa_or, or_new hx, show ix (nI (x &&& (y ^^^ 255))) = x &&& (y ^^^ 255) from nI_clamp (by omega)]
      refine Eq2_ok (N2 := mI (mI M 0 (upd (M.1 0) (28 + 7 * j + 6) (nI (y ||| x)))) 10 (upd (M.1 10) (28 + 7 * j + 6) (nI (y ||| x)))) ?_ (Rel_A h (RA_p r hj (by omega) (WB_kn r.1.1 ⟨_, ho2, rfl⟩)))
      unfold R_tells
      rw [show (mJ M 0 (28 + 7 * j + 6) (nI (y ||| x))).1 10 3 = M.1 0 3 from e3, ho, ci, cj, show (mJ M 0 (28 + 7 * j + 6) (nI (y ||| x))).1 10 = M.1 10 from rfl, RA_pe r hi (by omega), RA_pe r hj (by omega), if_pos hb]
      unfold telN oTel
      rw [RA_pe r hi (by omega), RA_pe r hj (by omega), ex, ey, fa_or, show ix (nI (y ||| x)) = y ||| x from nI_clamp (by omega), show ix (nI y) = y from nI_clamp (by omega)]
      have pn := popc_new (i := y) (j := x)
      rw [pk_sub (by omega), show popc (y ||| x) - popc y = popc (x &&& (y ^^^ 255)) by omega]; rfl
    · rw [if_neg hb]
      refine Eq2_bad h (by omega) ?_
      unfold R_tells
      rw [show (bad M 4).2.1 10 3 = M.1 0 3 from e3, ho, ci, cj, show (bad M 4).2.1 10 = M.1 10 from rfl, RA_pe r hi (by omega), RA_pe r hj (by omega), if_neg hb]; rfl
end Calls2
