/-! calls that let hours go, on both sides -/
theorem Rel_of {M N : ex_M} (h : Rel M) (hA : ∃ np ne, RA (N.1 0) (N.1 10) np ne) (hF : RF (N.1 5) (N.1 13)) (e2 : N.1 2 = M.1 2) (e11 : N.1 11 = M.1 11) (e30 : N.1 3 0 = M.1 3 0) (e33 : N.1 3 3 = M.1 3 3) (e140 : N.1 14 0 = M.1 14 0) (e141 : N.1 14 1 = M.1 14 1) (e143 : N.1 14 3 = M.1 14 3) (e4 : N.1 4 = M.1 4) (e15 : N.1 15 = M.1 15) (e6 : N.1 6 = M.1 6) (e17 : N.1 17 = M.1 17) (e18 : N.1 18 = M.1 18) (eL : N.2 = M.2) : Rel N := by
  refine ⟨hA, ?_, by rw [e141]; exact h.2.2.1, hF, ?_, ?_⟩
  · unfold RK; rw [e2, e11, e30, e140]; exact h.2.1
  · unfold RT; rw [e33, e143, e4, e15]; exact h.2.2.2.2.1
  · unfold RH; rw [e6, e17, e18, eL]; exact h.2.2.2.2.2
section Hrs
variable {a b : Nat → Int32} {np ne : Nat}
theorem RA_hours {n : Nat} (r : RA a b np ne) : RA (hoursC np ne n a) (hoursR (-1) np ne n b) np ne := by
  refine ⟨Q_hours (SG_id r.1.1.1.2.1) n a b r.1, ?_⟩
  rw [hoursC_cnt r.1.1.1.2.2.2.1 (by omega) (by omega), (HK_hoursR n b (HK_of (RA_WF r))).1, r.1.1.1.1]
theorem RA_hour (r : RA a b np ne) : RA (hourC np ne a) (hourR (-1) np ne b) np ne := RA_hours (n := 1) r
theorem RA_bec {x : Nat → Int32} (r : RA a b np ne) : RA (becR x a np ne) b np ne := by
  have hne := r.1.1.1.2.2.2.1
  refine ⟨⟨⟨WF_bec r.1.1.1, ?_, fun p q => ?_, fun e q => ?_⟩, fun j hj => ?_, fun j h4 hj => ?_, fun i f hi hf => ?_⟩, ?_⟩
  · rw [becR_lo (by omega)]; exact r.1.1.2.1
  · rw [becR_live hne (by omega), becR_live hne (by omega)]; exact r.1.1.2.2.1 p q
  · rw [becR_live hne (by omega)]; exact r.1.1.2.2.2 e q
  · rw [becR_lo (by omega)]; exact r.1.2.1 j hj
  · rw [becR_live hne (by omega)]; exact r.1.2.2.1 j h4 hj
  · rw [becR_live hne (by omega)]; exact r.1.2.2.2 i f hi hf
  · rw [becR_lo (by omega)]; exact r.2
/-- hours go until something stops them -/
theorem Q_srch {sC sR : (Nat → Int32) → Bool} (hs : ∀ a b, RA a b np ne → sR b = sC a) : ∀ m k a b, RA a b np ne →
    (∃ j a', srch sC np ne (m + 1) k a = (some j, a') ∧ j ≤ k + m ∧ (srR sR (-1) np ne m k b).1 = j ∧ RA a' (srR sR (-1) np ne m k b).2 np ne ∧ sC a' = true) ∨ (∃ a', srch sC np ne (m + 1) k a = (none, a') ∧ RA a' (hourR (-1) np ne (srR sR (-1) np ne m k b).2) np ne ∧ sR (srR sR (-1) np ne m k b).2 = false)
  | 0, k, a, b, r => by
    rw [srch, srR]
    cases hc : sC a with
    | true => exact Or.inl ⟨k, a, rfl, by omega, rfl, r, hc⟩
    | false => exact Or.inr ⟨hourC np ne a, rfl, RA_hour r, (hs a b r).trans hc⟩
  | m + 1, k, a, b, r => by
    rw [srch, srR, hs a b r]
    cases hc : sC a with
    | true => exact Or.inl ⟨k, a, rfl, by omega, rfl, r, hc⟩
    | false =>
      rw [cond_false]
      rcases Q_srch hs m (k + 1) _ _ (RA_hour r) with ⟨j, a', h1, h2, h3, h4, h5⟩ | h
      · exact Or.inl ⟨j, a', h1, by omega, h3, h4, h5⟩
      · exact Or.inr h
end Hrs
section Calls3
variable {M : ex_M} {np ne : Nat}
theorem Rel_thk {a z : Nat → Int32} (h : Rel M) (r : RA (M.1 0) (M.1 10) np ne) : Rel (thk (mI M 1 a) z) :=
  Rel_of h ⟨np, ne, RA_ext r (fun j hj => thk_eq hj)⟩ h.2.2.2.1 rfl rfl rfl rfl rfl rfl rfl rfl rfl rfl rfl rfl rfl
theorem Rel_n3 {a z : Nat → Int32} (h : Rel M) (r : RA (M.1 0) (M.1 10) np ne) : Rel (rbad (thk (bad (mI M 1 a) 3).2 z) 3).2 :=
  Rel_of h ⟨np, ne, RA_ext r (fun j hj => (thk_eq (M := (bad (mI M 1 a) 3).2) hj))⟩ (RF_bad (k := 3) (by omega) h.2.2.2.1) rfl rfl rfl rfl rfl rfl rfl rfl rfl rfl rfl rfl rfl
theorem E_hours {n : Int32} (h : Rel M) (r : RA (M.1 0) (M.1 10) np ne) : Eq2 (D_hours M np ne n) (fun N => R_hours N np ne n) := by
  have e0 : M.1 10 0 = M.1 0 0 := RA_n r (by omega)
  have ea := h.2.2.1
  unfold D_hours
  cases ho : out n 1 72 with
  | true =>
    refine Eq2_bad h (by omega) ?_
    unfold R_hours; rw [ho]; rfl
  | false =>
    rw [cond_false]
    by_cases hl : M.1 0 0 + n ≤ 9999
    · rw [if_pos hl]
      have q := RA_hours (n := ix n) r
      refine Eq2_ok (N2 := mI (mI M 0 (hoursC np ne (ix n) (M.1 0))) 10 (hoursR (-1) np ne (ix n) (M.1 10))) ?_ (Rel_A h q)
      unfold R_hours
      rw [ho, show (mI M 0 (hoursC np ne (ix n) (M.1 0))).1 10 = M.1 10 from rfl, show (mI M 0 (hoursC np ne (ix n) (M.1 0))).1 14 1 = -1 from ea, e0, if_pos hl, sum_eq (by omega) q.1.2]; rfl
    · rw [if_neg hl]
      refine Eq2_bad h (by omega) ?_
      unfold R_hours
      rw [ho, show (bad M 4).2.1 10 0 = M.1 0 0 from e0, if_neg hl]; rfl
theorem E_now {w : Int32} (h : Rel M) (r : RA (M.1 0) (M.1 10) np ne) : Eq2 (D_now M np ne w) (fun N => R_now N np ne w) := by
  have e0 : M.1 10 0 = M.1 0 0 := RA_n r (by omega)
  unfold D_now
  by_cases h0 : w = 0
  · rw [if_pos h0]
    refine Eq2_ok (N2 := M) ?_ h
    unfold R_now; rw [if_pos h0, e0]
  · rw [if_neg h0]
    by_cases h1 : w = 1
    · rw [if_pos h1]
      refine Eq2_ok (N2 := M) ?_ h
      unfold R_now; rw [if_neg h0, if_pos h1, e0]
    · rw [if_neg h1]
      by_cases h2 : w = 2
      · rw [if_pos h2]
        refine Eq2_ok (N2 := M) ?_ h
        unfold R_now; rw [if_neg h0, if_neg h1, if_pos h2, sum_eq (by omega) r.1.2]
      · rw [if_neg h2]
        by_cases h3 : w = 3
        · rw [if_pos h3]
          refine Eq2_ok (N2 := M) ?_ h
          unfold R_now; rw [if_neg h0, if_neg h1, if_neg h2, if_pos h3, sum_eq (by omega) r.1.2]
        · rw [if_neg h3]
          by_cases h4 : w = 4
          · rw [if_pos h4]
            refine Eq2_ok (N2 := M) ?_ h
            unfold R_now; rw [if_neg h0, if_neg h1, if_neg h2, if_neg h3, if_pos h4, lft_eq r.1.2]
          · rw [if_neg h4]
            by_cases h5 : w = 5
            · rw [if_pos h5]
              refine Eq2_ok (N2 := M) ?_ h
              unfold R_now; rw [if_neg h0, if_neg h1, if_neg h2, if_neg h3, if_neg h4, if_pos h5, met_eq r.1.1 r.1.2]
            · rw [if_neg h5]
              refine Eq2_bad h (by omega) ?_
              unfold R_now; rw [if_neg h0, if_neg h1, if_neg h2, if_neg h3, if_neg h4, if_neg h5]
theorem E_on {p n w : Int32} (h : Rel M) (r : RA (M.1 0) (M.1 10) np ne) : Eq2 (D_on M np ne p n w) (fun N => R_on N np ne p n w) := by
  have e3 : M.1 10 3 = M.1 0 3 := r.2
  have ea := h.2.2.1
  unfold D_on
  cases ho : (out p 0 (M.1 0 3 - 1) || (out n 0 72 || out w 0 3)) with
  | true =>
    refine Eq2_bad h (by omega) ?_
    unfold R_on; rw [show (bad M 0).2.1 10 3 = M.1 0 3 from e3, ho]; rfl
  | false =>
    obtain ⟨o1, -⟩ := Bool.or_eq_false_iff.mp ho
    obtain ⟨i, hi, rfl⟩ := out_ix r.1.1.1.1 r.1.1.1.2.1 o1
    have hnp := r.1.1.1.2.1
    have ci : ix (nI i) = i := nI_clamp (by omega)
    have hf : fld w < 7 := by unfold fld; split; omega; split; omega; split <;> omega
    have q := RA_hours (n := ix n) (RA_bec (x := M.1 1) r)
    refine Eq2_ok (N2 := thk (mI M 1 (hoursC np ne (ix n) (tro M np ne))) (hoursR (-1) np ne (ix n) (M.1 10))) ?_ (Rel_thk h r)
    unfold R_on
    rw [show (mI M 1 (hoursC np ne (ix n) (tro M np ne))).1 10 = M.1 10 from rfl, e3, ho, ci, show (mI M 1 (hoursC np ne (ix n) (tro M np ne))).1 14 1 = -1 from ea, RA_pe q hi hf]; rfl
theorem E_met {n : Int32} (h : Rel M) (r : RA (M.1 0) (M.1 10) np ne) : Eq2 (D_met M np ne n) (fun N => R_met N np ne n) := by
  have ea := h.2.2.1
  unfold D_met
  cases ho : out n 0 72 with
  | true =>
    refine Eq2_bad h (by omega) ?_
    unfold R_met; rw [ho]; rfl
  | false =>
    have q := RA_hours (n := ix n) (RA_bec (x := M.1 1) r)
    refine Eq2_ok (N2 := thk (mI M 1 (hoursC np ne (ix n) (tro M np ne))) (hoursR (-1) np ne (ix n) (M.1 10))) ?_ (Rel_thk h r)
    unfold R_met
    rw [ho, show (mI M 1 (hoursC np ne (ix n) (tro M np ne))).1 10 = M.1 10 from rfl, show (mI M 1 (hoursC np ne (ix n) (tro M np ne))).1 14 1 = -1 from ea, met_eq q.1.1 q.1.2]; rfl
theorem orNR_ok {N : ex_M} {j : Nat} (hj : j < 2 ^ 31) : orNR N (nI j) = (nI j, N) := by unfold orNR; rw [if_pos (nI_pos' hj)]
theorem orNR_no {N : ex_M} : orNR N (-1) = rbad N 3 := by unfold orNR; rw [if_neg (by decide)]
theorem lrnR_t {st : (Nat → Int32) → Bool} {z : Nat × (Nat → Int32)} {j : Nat} (h1 : st z.2 = true) (h2 : z.1 = j) : lrnR st z = nI j := by unfold lrnR; rw [h1, cond_true, h2]
theorem lrnR_f {st : (Nat → Int32) → Bool} {z : Nat × (Nat → Int32)} (h1 : st z.2 = false) : lrnR st z = -1 := by unfold lrnR; rw [h1, cond_false]
theorem E_learns {p e : Int32} (h : Rel M) (r : RA (M.1 0) (M.1 10) np ne) : Eq2 (D_learns M np ne p e) (fun N => R_learns N np ne p e) := by
  have e3 : M.1 10 3 = M.1 0 3 := r.2
  have e2 : M.1 10 2 = M.1 0 2 := RA_n r (by omega)
  have ea := h.2.2.1
  unfold D_learns
  cases ho : (out p 0 (M.1 0 3 - 1) || out e 0 (M.1 0 2 - 1)) with
  | true =>
    refine Eq2_bad h (by omega) ?_
    unfold R_learns; rw [show (bad M 0).2.1 10 3 = M.1 0 3 from e3, show (bad M 0).2.1 10 2 = M.1 0 2 from e2, ho]; rfl
  | false =>
    obtain ⟨o1, -⟩ := Bool.or_eq_false_iff.mp ho
    obtain ⟨i, hi, rfl⟩ := out_ix r.1.1.1.1 r.1.1.1.2.1 o1
    have hnp := r.1.1.1.2.1
    have ci : ix (nI i) = i := nI_clamp (by omega)
    rw [cond_false]
    simp only [ci]
    have hs : ∀ a b, RA a b np ne → hs1 (b (28 + 7 * i + 6)) e = hb (a (28 + 7 * i + 6)) e := fun a b q => by rw [hs1_hb, RA_pe q hi (by omega)]
    have key : ∀ N : ex_M, N.1 10 = M.1 10 → N.1 14 1 = -1 → R_learns N np ne (nI i) e = orNR (thk N (srR (fun b => hs1 (b (28 + 7 * i + 6)) e) (-1) np ne 72 0 (M.1 10)).2) (lrnR (fun b => hs1 (b (28 + 7 * i + 6)) e) (srR (fun b => hs1 (b (28 + 7 * i + 6)) e) (-1) np ne 72 0 (M.1 10))) := fun N n1 n2 => by
      unfold R_learns zLea
      rw [n1, n2, e3, e2, ho, ci]; rfl
    rcases Q_srch (sC := fun b => hb (b (28 + 7 * i + 6)) e) (sR := fun b => hs1 (b (28 + 7 * i + 6)) e) hs 72 0 _ _ (RA_bec (x := M.1 1) r) with ⟨j, a', h1, h2, h3, h4, h5⟩ | ⟨a', h1, h2, h3⟩
    · rw [show tro M np ne = becR (M.1 1) (M.1 0) np ne from rfl, h1]
      show Eq2 (nI j, mI M 1 a') _
      refine Eq2_ok (N2 := thk (mI M 1 a') (srR (fun b => hs1 (b (28 + 7 * i + 6)) e) (-1) np ne 72 0 (M.1 10)).2) ?_ (Rel_thk h r)
      rw [key (mI M 1 a') rfl ea]
      rw [lrnR_t ((hs _ _ h4).trans h5) h3, orNR_ok (by omega)]
    · rw [show tro M np ne = becR (M.1 1) (M.1 0) np ne from rfl, h1]
      show Eq2 (bad (mI M 1 a') 3) _
      show (R_learns (bad (mI M 1 a') 3).2 np ne (nI i) e).1 = _ ∧ Rel (R_learns (bad (mI M 1 a') 3).2 np ne (nI i) e).2
      rw [key (bad (mI M 1 a') 3).2 rfl ea]
      rw [lrnR_f h3, orNR_no]
      exact ⟨rfl, Rel_n3 h r⟩
theorem E_broke {p : Int32} (h : Rel M) (r : RA (M.1 0) (M.1 10) np ne) : Eq2 (D_broke M np ne p) (fun N => R_broke N np ne p) := by
  have e3 : M.1 10 3 = M.1 0 3 := r.2
  have ea := h.2.2.1
  unfold D_broke
  cases ho : out p 0 (M.1 0 3 - 1) with
  | true =>
    refine Eq2_bad h (by omega) ?_
    unfold R_broke; rw [show (bad M 0).2.1 10 3 = M.1 0 3 from e3, ho]; rfl
  | false =>
    obtain ⟨i, hi, rfl⟩ := out_ix r.1.1.1.1 r.1.1.1.2.1 ho
    have hnp := r.1.1.1.2.1
    have ci : ix (nI i) = i := nI_clamp (by omega)
    rw [cond_false]
    simp only [ci]
    have hs : ∀ a b, RA a b np ne → (!pays b i) = !pays a i := fun a b q => by unfold pays; rw [RA_pe q hi (by omega), RA_n q (by omega)]
    have key : ∀ N : ex_M, N.1 10 = M.1 10 → N.1 14 1 = -1 → R_broke N np ne (nI i) = orNR (thk N (srR (fun b => !pays b i) (-1) np ne 72 0 (M.1 10)).2) (lrnR (fun b => !pays b i) (srR (fun b => !pays b i) (-1) np ne 72 0 (M.1 10))) := fun N n1 n2 => by
      unfold R_broke zBro
      rw [n1, n2, e3, ho, ci]; rfl
    rcases Q_srch (sC := fun b => !pays b i) (sR := fun b => !pays b i) hs 72 0 _ _ (RA_bec (x := M.1 1) r) with ⟨j, a', h1, h2, h3, h4, h5⟩ | ⟨a', h1, h2, h3⟩
    · rw [show tro M np ne = becR (M.1 1) (M.1 0) np ne from rfl, h1]
      show Eq2 (nI j, mI M 1 a') _
      refine Eq2_ok (N2 := thk (mI M 1 a') (srR (fun b => !pays b i) (-1) np ne 72 0 (M.1 10)).2) ?_ (Rel_thk h r)
      rw [key (mI M 1 a') rfl ea]
      rw [lrnR_t ((hs _ _ h4).trans h5) h3, orNR_ok (by omega)]
    · rw [show tro M np ne = becR (M.1 1) (M.1 0) np ne from rfl, h1]
      show Eq2 (bad (mI M 1 a') 3) _
      show (R_broke (bad (mI M 1 a') 3).2 np ne (nI i)).1 = _ ∧ Rel (R_broke (bad (mI M 1 a') 3).2 np ne (nI i)).2
      rw [key (bad (mI M 1 a') 3).2 rfl ea]
      rw [lrnR_f h3, orNR_no]
      exact ⟨rfl, Rel_n3 h r⟩
theorem E_first {e : Int32} (h : Rel M) (r : RA (M.1 0) (M.1 10) np ne) : Eq2 (D_first M np ne e) (fun N => R_first N np ne e) := by
  have e2 : M.1 10 2 = M.1 0 2 := RA_n r (by omega)
  have hnp := r.1.1.1.2.1
  have ea := h.2.2.1
  unfold D_first
  cases ho : out e 0 (M.1 0 2 - 1) with
  | true =>
    refine Eq2_bad h (by omega) ?_
    unfold R_first; rw [show (bad M 0).2.1 10 2 = M.1 0 2 from e2, ho]; rfl
  | false =>
    rw [cond_false]
    have hs : ∀ a b, RA a b np ne → (!decide (whoR b np e = 0)) = !decide (whoK a np e = 0) := fun a b q => by rw [who_eq q.1.2]
    have key : ∀ N : ex_M, N.1 10 = M.1 10 → N.1 14 1 = -1 → R_first N np ne e = orNR (thk N (srR (fun b => !decide (whoR b np e = 0)) (-1) np ne 72 0 (M.1 10)).2) (lst (ix (whoR (srR (fun b => !decide (whoR b np e = 0)) (-1) np ne 72 0 (M.1 10)).2 np e))) := fun N n1 n2 => by
      unfold R_first zFir
      rw [n1, n2, e2, ho]; rfl
    rcases Q_srch (sC := fun b => !decide (whoK b np e = 0)) (sR := fun b => !decide (whoR b np e = 0)) hs 72 0 _ _ (RA_bec (x := M.1 1) r) with ⟨j, a', h1, h2, h3, h4, h5⟩ | ⟨a', h1, h2, h3⟩
    · rw [show tro M np ne = becR (M.1 1) (M.1 0) np ne from rfl, h1]
      show Eq2 (nI (ntz (ix (whoK a' np e))), mI M 1 a') _
      refine Eq2_ok (N2 := thk (mI M 1 a') (srR (fun b => !decide (whoR b np e = 0)) (-1) np ne 72 0 (M.1 10)).2) ?_ (Rel_thk h r)
      rw [key (mI M 1 a') rfl ea, who_eq h4.1.2]
      obtain ⟨k, hk, ek⟩ := whoR_N (a := (srR (fun b => !decide (whoR b np e = 0)) (-1) np ne 72 0 (M.1 10)).2) e hnp
      rw [who_eq h4.1.2] at ek
      have k0 : k ≠ 0 := fun z => by
        have : whoK a' np e = 0 := by rw [ek, z]; rfl
        simp only [this, decide_true, Bool.not_true] at h5
        cases h5
      rw [ek, lst_nI hk, if_neg k0, show ix (nI k) = k from nI_clamp (by omega), orNR_ok (by have := ntz_lt k; omega)]
    · rw [show tro M np ne = becR (M.1 1) (M.1 0) np ne from rfl, h1]
      show Eq2 (bad (mI M 1 a') 3) _
      show (R_first (bad (mI M 1 a') 3).2 np ne e).1 = _ ∧ Rel (R_first (bad (mI M 1 a') 3).2 np ne e).2
      rw [key (bad (mI M 1 a') 3).2 rfl ea]
      have z : whoR (srR (fun b => !decide (whoR b np e = 0)) (-1) np ne 72 0 (M.1 10)).2 np e = 0 := by simpa using h3
      rw [z, show lst (ix 0) = -1 from rfl, orNR_no]
      exact ⟨rfl, Rel_n3 h r⟩
theorem E_image (h : Rel M) (r : RA (M.1 0) (M.1 10) np ne) : Eq2 (D_image M np ne) (fun N => R_image N) := by
  unfold D_image
  refine Eq2_ok (N2 := mJ (mI (mJ (mI M 2 (becR (M.1 2) (M.1 0) np ne)) 3 0 1) 11 (cpf 84 (M.1 10) (M.1 11))) 14 0 1) rfl ?_
  refine ⟨h.1, ⟨Or.inr rfl, rfl, fun _ => ⟨np, ne, RA_ext (RA_bec r) (fun j hj => cpf_lt hj)⟩⟩, h.2.2.1, h.2.2.2.1, h.2.2.2.2.1, h.2.2.2.2.2⟩
theorem E_undo {kp ke : Nat} (h : Rel M) (rk : ¬ M.1 3 0 = 0 → RA (M.1 2) (M.1 11) kp ke) : Eq2 (D_undo M kp ke) (fun N => R_undo N) := by
  have e0 : M.1 14 0 = M.1 3 0 := h.2.1.2.1
  unfold D_undo
  by_cases hz : M.1 3 0 = 0
  · rw [if_pos hz]
    refine Eq2_bad h (by omega) ?_
    unfold R_undo
    rw [show (bad M 3).2.1 14 0 = M.1 3 0 from e0, if_pos hz]
  · rw [if_neg hz]
    have k := rk hz
    refine Eq2_ok (N2 := mI (mI M 0 (becR (M.1 0) (M.1 2) kp ke)) 10 (cpf 84 (M.1 11) (M.1 10))) ?_ (Rel_A h (RA_ext (RA_bec k) (fun j hj => cpf_lt hj)))
    unfold R_undo
    rw [show (mI M 0 (becR (M.1 0) (M.1 2) kp ke)).1 14 0 = M.1 3 0 from e0, if_neg hz, show (mI M 0 (becR (M.1 0) (M.1 2) kp ke)).1 11 3 = M.1 2 3 from k.2]; rfl
theorem E_tear (h : Rel M) : Eq2 (D_tear M) (fun N => R_tear N) := by
  unfold D_tear
  refine Eq2_ok (N2 := mJ (mJ M 3 0 0) 14 0 0) ?_ ?_
  · unfold R_tear
    rw [show (mJ M 3 0 0).1 14 0 = M.1 3 0 from h.2.1.2.1]
  · exact ⟨h.1, ⟨Or.inl rfl, rfl, fun z => absurd rfl z⟩, h.2.2.1, h.2.2.2.1, h.2.2.2.2.1, h.2.2.2.2.2⟩
theorem E_count {w : Int32} (h : Rel M) (r : RA (M.1 0) (M.1 10) np ne) : Eq2 (D_count M np w) (fun N => R_count N np w) := by
  obtain ⟨l, hl, t1, t2, t3⟩ := h.2.2.2.2.1
  unfold D_count
  by_cases h0 : w = 0
  · rw [if_pos h0]
    refine Eq2_ok (N2 := M) ?_ h
    unfold R_count; rw [if_pos h0, r.2]
  · rw [if_neg h0]
    by_cases h1 : w = 1
    · rw [if_pos h1]
      refine Eq2_ok (N2 := M) ?_ h
      unfold R_count; rw [if_neg h0, if_pos h1, RA_n r (by omega)]
    · rw [if_neg h1]
      by_cases h2 : w = 2
      · rw [if_pos h2]
        refine Eq2_ok (N2 := M) ?_ h
        unfold R_count; rw [if_neg h0, if_neg h1, if_pos h2, t1, t2]
      · rw [if_neg h2]
        by_cases h3 : w = 3
        · rw [if_pos h3]
          refine Eq2_ok (N2 := M) ?_ h
          unfold R_count; rw [if_neg h0, if_neg h1, if_neg h2, if_pos h3, cntF_ext np 0 0 (fun j hj => RA_pe r (by omega) (by omega))]
        · rw [if_neg h3]
          refine Eq2_bad h (by omega) ?_
          unfold R_count; rw [if_neg h0, if_neg h1, if_neg h2, if_neg h3]
theorem E_status {w : Int32} (h : Rel M) : Eq2 (D_status M w) (fun N => R_status N w) := by
  unfold D_status
  cases ho : out w (-1) 6 with
  | true =>
    refine Eq2_bad h (by omega) ?_
    unfold R_status; rw [ho]; rfl
  | false =>
    rw [cond_false]
    obtain ⟨i, hi, ei⟩ := out_m1 ho
    have ci : ix (nI i) = i := nI_clamp (by omega)
    have ew : w = nI i - 1 := by rw [← ei, Int32.add_sub_cancel]
    by_cases hw : w < 0
    · rw [if_pos hw]
      refine Eq2_ok (N2 := M) ?_ h
      have i0 : i = 0 := by
        rcases Nat.eq_zero_or_pos i with z | z
        · exact z
        · exact absurd hw (by rw [ew, show i = i - 1 + 1 by omega, nI_pred]; exact nI_pos (by omega))
      unfold R_status; rw [ho, ei, ci, i0, h.2.2.2.1.2]; rfl
    · rw [if_neg hw]
      refine Eq2_ok (N2 := M) ?_ h
      have i1 : 0 < i := by
        rcases Nat.eq_zero_or_pos i with z | z
        · exact absurd (by rw [ew, z]; decide) hw
        · exact z
      have ew2 : w = nI (i - 1) := by rw [ew, show i = i - 1 + 1 by omega, nI_pred]; rfl
      unfold R_status; rw [ho, ei, ci, ew2, show ix (nI (i - 1)) = i - 1 from nI_clamp (by omega), show i = i - 1 + 1 by omega, h.2.2.2.1.1 (i - 1) (by omega)]; rfl
theorem E_wipe (h : Rel M) : Eq2 (D_wipe M) (fun N => R_wipe N) := by
  obtain ⟨l, hl, t1, t2, t3⟩ := h.2.2.2.2.1
  unfold D_wipe
  refine Eq2_ok (N2 := mJ (mJ M 3 3 0) 14 3 0) ?_ ?_
  · unfold R_wipe
    rw [show (mJ M 3 3 0).1 14 3 = M.1 3 3 from t2.trans t1.symm]
  · exact ⟨h.1, h.2.1, h.2.2.1, h.2.2.2.1, ⟨0, by omega, rfl, rfl, fun j hj => absurd hj (by omega)⟩, h.2.2.2.2.2⟩
end Calls3
