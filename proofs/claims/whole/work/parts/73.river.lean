/-! A RIVER TOLD, on both sides -/
theorem FrC_A0 {M : ex_M} {np ne l : Nat} : FrC M (stC (mJ (tr0 M np ne) 3 6 0) l 0) := by
  refine ⟨fun q h1 h3 => ?_, fun k hk => ?_, ?_⟩
  · rw [stC_1 _ _ _ _ h3]
    simp only [mJ, wr_n h3]
    exact mI_n h1
  · rw [stC_k _ _ _ (by omega)]
    simp only [mJ, wr_s]
    rw [ud_n (by omega)]; rfl
  · rw [stC_2]; rfl
theorem FrR_B0 {N : ex_M} {l : Nat} : FrR N (nxC (rv0 N) l 0) := by
  have k : FrR N (rv0 N) := FrR_J (by omega) (FrR_J (by omega) (FrR_J (by omega) (FrR_J (by omega) (FrR_J (by omega) ⟨fun _ _ _ => rfl, fun _ _ => rfl, rfl⟩))))
  exact ⟨fun q h1 h3 => (nxP_r (rv0 N) h1).trans (k.1 q h1 h3), fun j hj => (nxP_k (rv0 N) (by omega)).trans (k.2.1 j hj), (nxP_2 (rv0 N)).trans k.2.2⟩
theorem rv_core {M N : ex_M} {np ne l : Nat} (hl : l ≤ 120) (r : RA (M.1 0) (M.1 10) np ne) (t1 : M.1 3 3 = nI l) (t2 : M.1 14 3 = nI l) (t3 : ∀ j, j < l → M.1 15 j = M.1 4 j ∧ ¬ M.1 15 j < 0) (n10 : N.1 10 = M.1 10) (n14 : N.1 14 = M.1 14) (n15 : N.1 15 = M.1 15) (z : Int32 × ex_M) (hz : z = rvP M np ne l) :
    ∃ E : ex_M, rvE N l = mJ E 14 3 0 ∧ FrR N E ∧ ((∃ n', z.1 = nI n' ∧ n' ≤ 120 ∧ E.1 14 8 = 0 ∧ E.1 14 9 = nI n' ∧ (∃ np ne, RA (z.2.1 1) (rp (apI (E.1 16)) n' 0 (E.1 10)) np ne) ∧ okL (E.1 16) n' 0 (E.1 10)) ∨ (z.1 = -1 - E.1 14 4 ∧ z.1 < 0 ∧ E.1 14 8 = 1)) := by
  have hy : ∀ j, j < l → ¬ N.1 15 j < 0 := fun j hj => by rw [n15]; exact (t3 j hj).2
  have e14 : N.1 14 3 = nI l := by rw [n14]; exact t2
  have rs := RS_rv0 hl e14 hy
  have ts : TS (stC (mJ (tr0 M np ne) 3 6 0) l 0) (nxC (rv0 N) l 0) 0 := by
    refine ⟨TK_stC hl (by omega) t1 e14 (fun j hj => ?_), nxP_k (rv0 N) (by omega), nxP_k (rv0 N) (by omega), ?_, ?_, ⟨np, ne, ?_⟩, trivial⟩
    · show N.1 15 j = M.1 4 j
      rw [n15]; exact (t3 j hj).1
    · rw [show (nxC (rv0 N) l 0).1 14 10 = N.1 10 3 from nxP_k (rv0 N) (by omega), stC_1 _ _ _ _ (by decide)]
      show N.1 10 3 = becR (M.1 1) (M.1 0) np ne 3
      rw [n10, becR_lo (by omega)]; exact r.2
    · rw [show (nxC (rv0 N) l 0).1 14 11 = N.1 10 2 from nxP_k (rv0 N) (by omega), stC_1 _ _ _ _ (by decide)]
      show N.1 10 2 = becR (M.1 1) (M.1 0) np ne 2
      rw [n10, becR_lo (by omega)]; exact RA_n r (by omega)
    · rw [stC_1 _ _ _ _ (by decide)]
      show RA (becR (M.1 1) (M.1 0) np ne) ((nxC (rv0 N) l 0).1 10) np ne
      rw [show (nxC (rv0 N) l 0).1 10 = N.1 10 from FrR_B0.1 10 (by decide) (by decide), n10]
      exact RA_bec r
  have hz2 : z = pL 120 (0 + 1) (stC (mJ (tr0 M np ne) 3 6 0) l 0) := by rw [hz]; unfold rvP P_parse; rfl
  have hE : rvE N l = mJ (mstR (rvL 121 (rdI (nxC (rv0 N) l 0))) (decide ((rvL 121 (rdI (nxC (rv0 N) l 0))).1 14 6 = 0))) 14 3 0 := by unfold rvE rv1; rfl
  have fr := FrR_rvL (M := N) 121 _ (FrR_rdI FrR_B0 (A := nxC (rv0 N) l 0))
  have q := Q_riv 120 121 0 _ _ ts rs (by omega) (by omega) (by omega) z _ hz2 rfl
  generalize rvL 121 (rdI (nxC (rv0 N) l 0)) = K at hE fr q
  exact ⟨_, hE, FrR_mst fr, q⟩
theorem E_river {M : ex_M} {np ne l : Nat} (h : Rel M) (r : RA (M.1 0) (M.1 10) np ne) (hl : l ≤ 120) (t1 : M.1 3 3 = nI l) :
    ∃ (v : Int32) (N K W : ex_M), D_river M np ne l = (v, N) ∧ N.1 14 3 = nI l ∧ (∀ j, j < l → ¬ N.1 15 j < 0) ∧ rvE N l = K ∧ (K.1 14 8 = 0 → okL (K.1 16) (ix (K.1 14 9)) 0 (K.1 10)) ∧ R_river N l = (v, W) ∧ Rel W := by
  obtain ⟨l2, hl2, u1, t2, t3⟩ := h.2.2.2.2.1
  have el : l2 = l := (nI_eq (by omega) (by omega)).mp (u1.symm.trans t1)
  subst el
  have fc : FrC M (rvP M np ne l2).2 := by
    unfold rvP P_parse
    exact FrC_pL 120 1 _ FrC_A0
  unfold D_river rvW
  generalize hZ : rvP M np ne l2 = z at fc
  by_cases hneg : z.1 < 0
  · rw [if_pos hneg]
    have nq : ∀ q, q ≠ 1 → q ≠ 3 → (mJ z.2 3 3 0).1 q = M.1 q := fun q a b => by simp only [mJ, wr_n b]; exact fc.1 q a b
    obtain ⟨E, hE, fr, hh⟩ := rv_core (N := mJ z.2 3 3 0) hl r t1 t2 t3 (nq 10 (by decide) (by decide)) (nq 14 (by decide) (by decide)) (nq 15 (by decide) (by decide)) z hZ.symm
    rcases hh with ⟨n', q1, q2, -⟩ | ⟨q1, -, q3⟩
    · rw [q1] at hneg; exact absurd hneg (nI_pos (by omega))
    · have g8 : ¬ (mJ E 14 3 0).1 14 8 = 0 := by rw [J3_k (by decide), q3]; decide
      have p3 : (mJ z.2 3 3 0).1 14 3 = nI l2 := by rw [nq 14 (by decide) (by decide)]; exact t2
      have p15 : ∀ j, j < l2 → ¬ (mJ z.2 3 3 0).1 15 j < 0 := fun j hj => by rw [nq 15 (by decide) (by decide)]; exact (t3 j hj).2
      have eR : R_river (mJ z.2 3 3 0) l2 = (z.1, mJ E 14 3 0) := by
        unfold R_river
        rw [hE, if_neg g8, J3_k (by decide), q1]
      refine ⟨z.1, mJ z.2 3 3 0, mJ E 14 3 0, mJ E 14 3 0, rfl, p3, p15, hE, fun g => absurd g g8, eR, ?_⟩
      · have wq : ∀ q, q ≠ 1 → q ≠ 3 → q ≠ 14 → q ≠ 16 → (mJ E 14 3 0).1 q = M.1 q := fun q a b c d => by
          rw [J3_r c, fr.1 q c d, nq q a b]
        have w3 : (mJ E 14 3 0).1 3 = (mJ z.2 3 3 0).1 3 := by rw [J3_r (by decide), fr.1 3 (by decide) (by decide)]
        have w14 : ∀ k, k < 3 → (mJ E 14 3 0).1 14 k = M.1 14 k := fun k hk => by rw [J3_k (by omega), fr.2.1 k (by omega), nq 14 (by decide) (by decide)]
        have wL : (mJ E 14 3 0).2 = M.2 := fr.2.2.trans fc.2.2
        refine ⟨⟨np, ne, ?_⟩, ?_, by rw [w14 1 (by omega)]; exact h.2.2.1, ?_, ⟨0, by omega, ?_, ?_, fun j hj => absurd hj (by omega)⟩, ?_⟩
        · rw [wq 0 (by decide) (by decide) (by decide) (by decide), wq 10 (by decide) (by decide) (by decide) (by decide)]; exact r
        · unfold RK
          rw [w3, show (mJ z.2 3 3 0).1 3 0 = M.1 3 0 from fc.2.1 0 (by omega), w14 0 (by omega), wq 2 (by decide) (by decide) (by decide) (by decide), wq 11 (by decide) (by decide) (by decide) (by decide)]; exact h.2.1
        · rw [wq 5 (by decide) (by decide) (by decide) (by decide), wq 13 (by decide) (by decide) (by decide) (by decide)]; exact h.2.2.2.1
        · rw [w3]; rfl
        · simp only [mJ, wr_s]; rw [ud_s]; rfl
        · unfold RH
          rw [wq 6 (by decide) (by decide) (by decide) (by decide), wq 17 (by decide) (by decide) (by decide) (by decide), wq 18 (by decide) (by decide) (by decide) (by decide), wL]; exact h.2.2.2.2.2
  · rw [if_neg hneg]
    have e1 : (mJ z.2 3 3 0).1 1 = z.2.1 1 := rfl
    rw [e1]
    generalize hb : becR ((mJ z.2 3 3 0).1 0) (z.2.1 1) (ix (z.2.1 1 3)) (ix (z.2.1 1 2)) = bb
    have nq : ∀ q, q ≠ 0 → q ≠ 1 → q ≠ 3 → (mI (mJ z.2 3 3 0) 0 bb).1 q = M.1 q := fun q c a b => by rw [mI_n c]; simp only [mJ, wr_n b]; exact fc.1 q a b
    obtain ⟨E, hE, fr, hh⟩ := rv_core (N := mI (mJ z.2 3 3 0) 0 bb) hl r t1 t2 t3 (nq 10 (by decide) (by decide) (by decide)) (nq 14 (by decide) (by decide) (by decide)) (nq 15 (by decide) (by decide) (by decide)) z hZ.symm
    rcases hh with ⟨n', q1, q2, q3, q4, ⟨kp, ke, ra⟩, ok⟩ | ⟨-, q2, -⟩
    · have g8 : (mJ E 14 3 0).1 14 8 = 0 := by rw [J3_k (by decide), q3]
      have g9 : (mJ E 14 3 0).1 14 9 = nI n' := by rw [J3_k (by decide), q4]
      have g16 : (mJ E 14 3 0).1 16 = E.1 16 := J3_r (by decide)
      have g10 : (mJ E 14 3 0).1 10 = E.1 10 := J3_r (by decide)
      have cn : ix (nI n') = n' := nI_clamp (by omega)
      have ckp : ix (z.2.1 1 3) = kp := by rw [ra.1.1.1.1]; exact nI_clamp (by have := ra.1.1.1.2.1; omega)
      have cke : ix (z.2.1 1 2) = ke := by rw [ra.1.1.1.2.2.1]; exact nI_clamp (by have := ra.1.1.1.2.2.2.1; omega)
      have p3 : (mI (mJ z.2 3 3 0) 0 bb).1 14 3 = nI l2 := by rw [nq 14 (by decide) (by decide) (by decide)]; exact t2
      have p15 : ∀ j, j < l2 → ¬ (mI (mJ z.2 3 3 0) 0 bb).1 15 j < 0 := fun j hj => by rw [nq 15 (by decide) (by decide) (by decide)]; exact (t3 j hj).2
      have pok : okL ((mJ E 14 3 0).1 16) (ix ((mJ E 14 3 0).1 14 9)) 0 ((mJ E 14 3 0).1 10) := by rw [g16, g9, g10, cn]; exact ok
      have eR : R_river (mI (mJ z.2 3 3 0) 0 bb) l2 = (z.1, mI (mJ E 14 3 0) 10 (rp (apI (E.1 16)) n' 0 (E.1 10))) := by
        unfold R_river
        rw [hE, if_pos g8, g16, g10, g9, cn, q1]
      refine ⟨z.1, mI (mJ z.2 3 3 0) 0 bb, mJ E 14 3 0, mI (mJ E 14 3 0) 10 (rp (apI (E.1 16)) n' 0 (E.1 10)), rfl, p3, p15, hE, fun _ => pok, eR, ?_⟩
      · generalize rp (apI (E.1 16)) n' 0 (E.1 10) = R at ra
        have wq : ∀ q, q ≠ 10 → q ≠ 14 → q ≠ 16 → (mI (mJ E 14 3 0) 10 R).1 q = (mI (mJ z.2 3 3 0) 0 bb).1 q := fun q a c d => by
          rw [mI_n a, J3_r c, fr.1 q c d]
        have w14 : ∀ k, k < 3 → (mI (mJ E 14 3 0) 10 R).1 14 k = M.1 14 k := fun k hk => by rw [mI_n (by decide), J3_k (by omega), fr.2.1 k (by omega), nq 14 (by decide) (by decide) (by decide)]
        have wL : (mI (mJ E 14 3 0) 10 R).2 = M.2 := fr.2.2.trans fc.2.2
        refine ⟨⟨kp, ke, ?_⟩, ?_, by rw [w14 1 (by omega)]; exact h.2.2.1, ?_, ⟨0, by omega, ?_, ?_, fun j hj => absurd hj (by omega)⟩, ?_⟩
        · rw [wq 0 (by decide) (by decide) (by decide), mI_s, mI_s, ← hb, ckp, cke]; exact RA_bec ra
        · unfold RK
          rw [wq 3 (by decide) (by decide) (by decide), show (mI (mJ z.2 3 3 0) 0 bb).1 3 0 = M.1 3 0 from fc.2.1 0 (by omega), w14 0 (by omega), wq 2 (by decide) (by decide) (by decide), nq 2 (by decide) (by decide) (by decide), wq 11 (by decide) (by decide) (by decide), nq 11 (by decide) (by decide) (by decide)]; exact h.2.1
        · rw [wq 5 (by decide) (by decide) (by decide), nq 5 (by decide) (by decide) (by decide), wq 13 (by decide) (by decide) (by decide), nq 13 (by decide) (by decide) (by decide)]; exact h.2.2.2.1
        · rw [wq 3 (by decide) (by decide) (by decide)]; rfl
        · rw [mI_n (by decide)]; simp only [mJ, wr_s]; rw [ud_s]; rfl
        · unfold RH
          rw [wq 6 (by decide) (by decide) (by decide), nq 6 (by decide) (by decide) (by decide), wq 17 (by decide) (by decide) (by decide), nq 17 (by decide) (by decide) (by decide), wq 18 (by decide) (by decide) (by decide), nq 18 (by decide) (by decide) (by decide), wL]; exact h.2.2.2.2.2
    · exact absurd q2 hneg
theorem c_Mod_river2 {G : ex_G} {M : ex_M} {l : Nat} {K : ex_M} (hl : l ≤ 120) (e : M.1 14 3 = nI l) (hy : ∀ j, j < l → ¬ M.1 15 j < 0) (hK : rvE M l = K) (hap : K.1 14 8 = 0 → okL (K.1 16) (ix (K.1 14 9)) 0 (K.1 10)) {v : Int32} {N : ex_M} (hR : R_river M l = (v, N)) : Con G Y_Mod_river 7 154 0 0 [.ref (ex_b G + 71)] (ce G M) (some (.int v)) (ce G N) := by
  subst hK
  have q := c_Mod_river (G := G) hl e hy hap
  rw [hR] at q
  exact q
