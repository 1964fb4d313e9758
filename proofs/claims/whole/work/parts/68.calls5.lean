/-! news, who is needed, the tape: on both sides -/
theorem Rel_IKb {M N0 N : ex_M} {np ne : Nat} (h : Rel M) (r : RA (M.1 0) (M.1 10) np ne) (z : (Nat → Int32) × (Nat → Int32)) (z0 : z.2 0 = M.1 3 0) (z3 : z.2 3 = M.1 3 3) (e : N0 = fin3 M z) (k : IK (fun _ => False) N0 N) (ka : N.1 14 1 = -1) : Rel N := by
  subst e
  exact Rel_IK (N0 := fin3 M z) h r h.2.2.2.1 rfl rfl rfl rfl z0 z3 rfl rfl rfl rfl rfl rfl rfl k ka
theorem Rel_IKn {M N0 N : ex_M} {np ne : Nat} (h : Rel M) (r : RA (M.1 0) (M.1 10) np ne) (z : (Nat → Int32) × (Nat → Int32)) (z0 : z.2 0 = M.1 3 0) (z3 : z.2 3 = M.1 3 3) (e : N0 = (bad (fin3 M z) 3).2) (k : IK (fun _ => False) N0 N) (ka : N.1 14 1 = -1) : Rel (rbad N 3).2 := by
  subst e
  exact Rel_IK (N0 := (rbad (bad (fin3 M z) 3).2 3).2) h r (RF_bad (k := 3) (by omega) h.2.2.2.1) rfl rfl rfl rfl z0 z3 rfl rfl rfl rfl rfl rfl rfl (IK_rbad k) ka
theorem none_nI {k : Nat} (hk : k < 2 ^ 31) : ¬ nI k = -1000000004 := fun z => by
  have := nI_pos' hk
  rw [z] at this
  exact absurd this (by decide)
theorem nw_core {M N0 : ex_M} {np ne n i : Nat} (h : Rel M) (r : RA (M.1 0) (M.1 10) np ne) (hi : i < np) (e10 : N0.1 10 = M.1 10) (z : (Nat → Int32) × (Nat → Int32))
    (hz : z = lpB np ne np n (fun e => hb (M.1 0 (28 + 7 * i + 6)) (nI e)) (fun e b => oHear b i ((1 : Int32) <<< (nI e &&& 31))) (fun t => t (28 + 7 * i + 2)) (M.1 0) ne 0 (hoursC np ne n (tro M np ne), bst0 (M.1 3) (hoursC np ne n (tro M np ne) (28 + 7 * i + 2))))
    (w : ex_M × Int32 × Int32) (hw : w = lpN (-1) np ne n i (M.1 10 (28 + 7 * i + 6)) ne 0 (thk N0 (hoursR (-1) np ne n (M.1 10)), -1, hoursR (-1) np ne n (M.1 10) (28 + 7 * i + 2))) :
    IK (fun j => j = 28 + 7 * i + 6) N0 w.1 ∧ w.1.1 14 1 = N0.1 14 1 ∧ CB True (-1) z.2 w.2 ∧ z.2 0 = M.1 3 0 ∧ z.2 3 = M.1 3 3 := by
  have hne := r.1.1.1.2.2.2.1
  have ek : M.1 10 (28 + 7 * i + 6) = M.1 0 (28 + 7 * i + 6) := RA_pe r hi (by omega)
  rw [ek] at hw
  obtain ⟨x, hx, ex⟩ := r.1.1.1.2.2.2.2.2.2 i hi
  have hW : ∀ (t : Nat → Int32) k, k < ne → WB (upd (becR t (M.1 0) np ne) (28 + 7 * i + 6) (M.1 0 (28 + 7 * i + 6) ||| ((1 : Int32) <<< (nI k &&& 31)))) np ne := fun t k hk => by
    refine WB_kn (RA_bec r).1.1 ?_
    rw [ex, one_shl k (by omega), fa_or]
    exact ⟨_, or_small hx (Nat.pow_lt_pow_right (a := 2) (by omega) (by omega : k < 8)), rfl⟩
  have hV : ∀ t k, k < 0 + ne → (fun e => hb (M.1 0 (28 + 7 * i + 6)) (nI e)) k = false → (fun t : Nat → Int32 => t (28 + 7 * i + 2)) (hoursC np ne n ((fun e b => oHear b i ((1 : Int32) <<< (nI e &&& 31))) k (becR t (M.1 0) np ne))) = (fun k => hoursR (-1) np ne n (nwB i k (M.1 0 (28 + 7 * i + 6)) (M.1 10)) (28 + 7 * i + 2)) k := fun t k hk _ => by
    show hoursC np ne n (oHear (becR t (M.1 0) np ne) i ((1 : Int32) <<< (nI k &&& 31))) (28 + 7 * i + 2) = hoursR (-1) np ne n (nwB i k (M.1 0 (28 + 7 * i + 6)) (M.1 10)) (28 + 7 * i + 2)
    unfold oHear nwB
    rw [becR_live hne (by omega)]
    exact (RA_val (RA_try r hi (by omega) (hW t k (by omega)) (fun _ _ _ => rfl)) hi).1.symm
  have e2 : z.2 = fB (fun e => hb (M.1 0 (28 + 7 * i + 6)) (nI e)) (fun k => hoursR (-1) np ne n (nwB i k (M.1 0 (28 + 7 * i + 6)) (M.1 10)) (28 + 7 * i + 2)) ne 0 (bst0 (M.1 3) (hoursC np ne n (tro M np ne) (28 + 7 * i + 2))) := by rw [hz]; exact lpB_2 ne 0 _ hV
  have hv0 : ∀ k N, k < ne → IK (fun j => j = 28 + 7 * i + 6) N0 N → nwV (-1) np ne n i k (M.1 0 (28 + 7 * i + 6)) (N.1 10) = bif hb (M.1 0 (28 + 7 * i + 6)) (nI k) then -1 else hoursR (-1) np ne n (nwB i k (M.1 0 (28 + 7 * i + 6)) (M.1 10)) (28 + 7 * i + 2) := fun k N hk hN => by
    unfold nwV
    rw [hs1_hb]
    cases hb (M.1 0 (28 + 7 * i + 6)) (nI k) with
    | true => rfl
    | false =>
      rw [cond_false, cond_false]
      unfold nwB
      rw [(RA_val (RA_try (x := M.1 1) r hi (by omega) (hW _ k hk) (fun j hj e => by rw [← e10]; exact hN.1 j hj e)) hi).1, (RA_val (RA_try (x := M.1 1) r hi (by omega) (hW _ k hk) (fun _ _ _ => rfl)) hi).1]
  have loop : ∀ m k w, k + m ≤ ne → IK (fun j => j = 28 + 7 * i + 6) N0 w.1 → w.1.1 14 1 = N0.1 14 1 → IK (fun j => j = 28 + 7 * i + 6) N0 (lpN (-1) np ne n i (M.1 0 (28 + 7 * i + 6)) m k w).1 ∧ (lpN (-1) np ne n i (M.1 0 (28 + 7 * i + 6)) m k w).1.1 14 1 = N0.1 14 1 ∧ (lpN (-1) np ne n i (M.1 0 (28 + 7 * i + 6)) m k w).2 = fR (fun k => bif hb (M.1 0 (28 + 7 * i + 6)) (nI k) then -1 else hoursR (-1) np ne n (nwB i k (M.1 0 (28 + 7 * i + 6)) (M.1 10)) (28 + 7 * i + 2)) m k w.2 := by
    intro m
    induction m with
    | zero => intro k w _ h1 h2; exact ⟨h1, h2, rfl⟩
    | succ m ih =>
      intro k w hk h1 h2
      rw [lpN, fR, hv0 k w.1 (by omega) h1]
      have hb1 : ∀ j, j < 84 → ¬ j = 28 + 7 * i + 6 → nwB i k (M.1 0 (28 + 7 * i + 6)) (w.1.1 10) j = w.1.1 10 j := fun j _ hj => by unfold nwB; exact ud_n hj
      refine ih (k + 1) _ (by omega) ?_ ?_
      · show IK _ N0 (nwM (-1) np ne n i k (M.1 0 (28 + 7 * i + 6)) w.1)
        unfold nwM
        cases hs1 (M.1 0 (28 + 7 * i + 6)) (nI k) with
        | true => rw [cond_true]; exact IK_mI h1 hb1
        | false => rw [cond_false]; exact IK_thk h1 hb1
      · show (nwM (-1) np ne n i k (M.1 0 (28 + 7 * i + 6)) w.1).1 14 1 = N0.1 14 1
        unfold nwM
        cases hs1 (M.1 0 (28 + 7 * i + 6)) (nI k) with
        | true => rw [cond_true]; exact h2
        | false => rw [cond_false]; exact h2
  obtain ⟨l1, l2, l3⟩ := loop ne 0 (thk N0 (hoursR (-1) np ne n (M.1 10)), -1, hoursR (-1) np ne n (M.1 10) (28 + 7 * i + 2)) (by omega) (IK_thk0 IK.rf) rfl
  rw [← hw] at l1 l2 l3
  have p0 := RA_val (n := n) (RA_bec (x := M.1 1) r) hi
  refine ⟨l1, l2, ?_, by rw [e2, fB_k (by decide) (by decide)]; rfl, by rw [e2, fB_k (by decide) (by decide)]; rfl⟩
  rw [l3, e2]
  refine CB_fold ne 0 _ _ (by omega) (fun k _ => rfl) ⟨?_, ?_, Or.inl ⟨trivial, rfl, rfl⟩⟩
  · show hoursC np ne n (tro M np ne) (28 + 7 * i + 2) = hoursR (-1) np ne n (M.1 10) (28 + 7 * i + 2)
    rw [p0.1]; rfl
  · show -1 ≤ hoursR (-1) np ne n (M.1 10) (28 + 7 * i + 2)
    rw [p0.1]
    exact Int32.le_of_lt (Int32.not_le.mp (neg1_of p0.2))
/-! one away -/
theorem oCpy_at {a b : Nat → Int32} {i j f : Nat} (hf : f < 7) : oCpy a i b j (28 + 7 * i + f) = b (28 + 7 * j + f) := by
  unfold oCpy
  rcases (by omega : f = 0 ∨ f = 1 ∨ f = 2 ∨ f = 3 ∨ f = 4 ∨ f = 5 ∨ f = 6) with e | e | e | e | e | e | e <;> subst e <;> simp [upd]
theorem oCpy_ne {a b : Nat → Int32} {i j k : Nat} (hk : k < 28 + 7 * i ∨ 28 + 7 * i + 6 < k) : oCpy a i b j k = a k := by
  unfold oCpy; rw [ud_n (by omega), ud_n (by omega), ud_n (by omega), ud_n (by omega), ud_n (by omega), ud_n (by omega), ud_n (by omega)]
theorem rpGo {i f : Nat} (hf : f < 7) : ∀ m g b, rp fGo m g b (28 + 7 * i + f) = if g ≤ i ∧ i < g + m then b (28 + 7 * (i + 1) + f) else b (28 + 7 * i + f)
  | 0, g, b => by rw [rp, if_neg (by omega)]
  | m + 1, g, b => by
    rw [rp, rpGo hf m (g + 1)]
    unfold fGo
    by_cases h1 : g + 1 ≤ i ∧ i < g + 1 + m
    · rw [if_pos h1, if_pos (by omega), oCpy_ne (by omega)]
    · rw [if_neg h1]
      by_cases h2 : i = g
      · subst h2; rw [if_pos (by omega), oCpy_at hf]
      · rw [if_neg (by omega), oCpy_ne (by omega)]
theorem Q_send {a b : Nat → Int32} {np ne w : Nat} (r : RA a b np ne) (hw : w < np) : WB (sendAw w np a) (np - 1) ne ∧ Qr (skp w) (np - 1) ne (sendAw w np a) b := by
  have hnp := r.1.1.1.2.1
  have hne := r.1.1.1.2.2.2.1
  have lo : ∀ j, j < 28 → j ≠ 3 → sendAw w np a j = a j := fun j hj h3 => by
    unfold sendAw
    rw [ud_n h3, rp_keep (fun i b => by unfold fGo; exact oCpy_lo hj)]
  have pe : ∀ i f, i < np - 1 → f < 7 → sendAw w np a (28 + 7 * i + f) = a (28 + 7 * skp w i + f) := fun i f hi hf => by
    unfold sendAw
    rw [ud_n (by omega), rpGo hf]
    unfold skp
    by_cases h : i < w
    · rw [if_neg (by omega), if_pos h]
    · rw [if_pos (by omega), if_neg h]
  have sk : ∀ i, i < np - 1 → skp w i < np := fun i hi => by unfold skp; split <;> omega
  obtain ⟨e1, e2, e3, e4, e5, e6, e7⟩ := r.1.1.1
  refine ⟨⟨⟨by unfold sendAw; rw [ud_s], by omega, by rw [lo 2 (by omega) (by omega)]; exact e3, e4, fun e q => ?_, fun p q => ?_, fun p q => ?_⟩, ?_, fun p q => ?_, fun e q => ?_⟩, fun j hj => ?_, fun j h4 hj => ?_, fun i f hi hf => ?_⟩
  · rw [lo _ (by omega) (by omega)]; exact e5 e q
  · rw [pe p 0 q (by omega)]; exact e6 _ (sk p q)
  · rw [pe p 6 q (by omega)]; exact e7 _ (sk p q)
  · rw [lo 1 (by omega) (by omega)]; exact r.1.1.2.1
  · rw [pe p 1 q (by omega), pe p 2 q (by omega)]; exact r.1.1.2.2.1 _ (sk p q)
  · rw [lo _ (by omega) (by omega)]; exact r.1.1.2.2.2 e q
  · rw [lo j (by omega) (by omega)]; exact r.1.2.1 j hj
  · rw [lo j (by omega) (by omega)]; exact r.1.2.2.1 j h4 hj
  · rw [pe i f hi hf]; exact r.1.2.2.2 _ f (sk i hi) hf
def fD (W : Nat → Int32) : Nat → Nat → Int32 × Int32 → Int32 × Int32
  | 0, _, z => z
  | m + 1, i, z => fD W m (i + 1) (if z.2 ≤ W i then z.1 else nI i, if W i < z.2 then W i else z.2)
def CD (c : Nat → Int32) (z : Int32 × Int32) : Prop := c 2 = -z.2 ∧ (∃ k, k ≤ 8 ∧ z.2 = nI k) ∧ ((c 1 = -1000000004 ∧ z.1 = -1) ∨ ∃ k, k < 2 ^ 31 ∧ c 1 = nI k ∧ z.1 = nI k)
theorem neg_le8 : ∀ a, a ≤ 8 → ∀ b, b ≤ 8 → (-(nI a) ≤ -(nI b) ↔ b ≤ a) := by decide +kernel
theorem CD_fold {W : Nat → Int32} : ∀ m i c z, i + m < 2 ^ 31 → (∀ k, k < i + m → ∃ j, j ≤ 8 ∧ W k = nI j) → CD c z → CD (fB (fun _ => false) (fun k => -W k) m i c) (fD W m i z)
  | 0, _, _, _, _, _, h => h
  | m + 1, i, c, z, hm, hw, h => by
    rw [fB, fD]
    refine CD_fold m (i + 1) _ _ (by omega) (fun k hk => hw k (by omega)) ?_
    obtain ⟨j, hj, ej⟩ := hw i (by omega)
    obtain ⟨h1, ⟨k, hk, ek⟩, h3⟩ := h
    rw [cond_false]
    unfold bst
    rw [h1, ej, ek]
    by_cases hc : k ≤ j
    · rw [if_pos ((neg_le8 j hj k hk).mpr hc), if_pos (nI_le hc (by omega)), if_neg (nI_nlt hc (by omega))]
      exact ⟨by rw [h1, ek], ⟨k, hk, rfl⟩, h3⟩
    · rw [if_neg (fun q => hc ((neg_le8 j hj k hk).mp q)), if_neg (nI_ge (by omega) (by omega)), if_pos (nI_lt (by omega) (by omega))]
      exact ⟨ud_s, ⟨j, hj, rfl⟩, Or.inr ⟨i, by omega, by rw [ud_n (by decide), ud_s], rfl⟩⟩
theorem nd_core {M N0 : ex_M} {np ne n : Nat} (h : Rel M) (r : RA (M.1 0) (M.1 10) np ne) (e10 : N0.1 10 = M.1 10) (z : (Nat → Int32) × (Nat → Int32))
    (hz : z = lpB np ne (np - 1) n (fun _ => false) (fun i b => sendAw i np b) (fun t => -metC t ne) (M.1 0) np 0 (hoursC np ne n (tro M np ne), bst0 (M.1 3) (-metC (hoursC np ne n (tro M np ne)) ne)))
    (w : ex_M × Int32 × Int32) (hw : w = lpD np ne n np 0 (thk N0 (hoursR (-1) np ne n (M.1 10)), -1, mtV (-1) np ne n (M.1 10))) :
    IK (fun _ => False) N0 w.1 ∧ CD z.2 w.2 ∧ z.2 0 = M.1 3 0 ∧ z.2 3 = M.1 3 3 := by
  have hnp := r.1.1.1.2.1
  have m8 : ∀ aw b, ∃ j, j ≤ 8 ∧ mtV aw np ne n b = nI j := fun aw b => ⟨_, popc_le _, rfl⟩
  have vm : ∀ (t b : Nat → Int32) k, k < np → (∀ j, j < 84 → b j = M.1 10 j) → metC (hoursC (np - 1) ne n (sendAw k np (becR t (M.1 0) np ne))) ne = mtV (nI k) np ne n b := fun t b k hk hb => by
    have q := Q_hours (SG_skp hnp hk) n _ _ (Q_send (RA_ext (RA_bec (x := t) r) hb) hk)
    unfold metC mtV
    rw [met_eq q.1 q.2]
  have hV : ∀ t k, k < 0 + np → (fun _ : Nat => false) k = false → (fun t : Nat → Int32 => -metC t ne) (hoursC (np - 1) ne n ((fun i b => sendAw i np b) k (becR t (M.1 0) np ne))) = (fun k => -(fun k => mtV (nI k) np ne n (M.1 10)) k) k := fun t k hk _ => by
    show -metC (hoursC (np - 1) ne n (sendAw k np (becR t (M.1 0) np ne))) ne = -mtV (nI k) np ne n (M.1 10)
    rw [vm t (M.1 10) k (by omega) (fun _ _ => rfl)]
  have e2 : z.2 = fB (fun _ => false) (fun k => -(fun k => mtV (nI k) np ne n (M.1 10)) k) np 0 (bst0 (M.1 3) (-metC (hoursC np ne n (tro M np ne)) ne)) := by rw [hz]; exact lpB_2 np 0 _ hV
  have loop : ∀ m k w, k + m ≤ np → IK (fun _ => False) N0 w.1 → IK (fun _ => False) N0 (lpD np ne n m k w).1 ∧ (lpD np ne n m k w).2 = fD (fun k => mtV (nI k) np ne n (M.1 10)) m k w.2 := by
    intro m
    induction m with
    | zero => intro k w _ h1; exact ⟨h1, rfl⟩
    | succ m ih =>
      intro k w hk h1
      have hb : ∀ j, j < 84 → w.1.1 10 j = M.1 10 j := fun j hj => by rw [h1.1 j hj id, e10]
      rw [lpD, fD, ← vm (M.1 1) (w.1.1 10) k (by omega) hb, ← vm (M.1 1) (M.1 10) k (by omega) (fun _ _ => rfl)]
      exact ih (k + 1) _ (by omega) (IK_thk0 (IK_14 (Or.inl rfl) h1))
  obtain ⟨l1, l3⟩ := loop np 0 (thk N0 (hoursR (-1) np ne n (M.1 10)), -1, mtV (-1) np ne n (M.1 10)) (by omega) (IK_thk0 IK.rf)
  rw [← hw] at l1 l3
  refine ⟨l1, ?_, by rw [e2, fB_k (by decide) (by decide)]; rfl, by rw [e2, fB_k (by decide) (by decide)]; rfl⟩
  rw [l3, e2]
  refine CD_fold np 0 _ _ (by omega) (fun k _ => m8 _ _) ⟨?_, m8 _ _, Or.inl ⟨rfl, rfl⟩⟩
  show -metC (hoursC np ne n (tro M np ne)) ne = -mtV (-1) np ne n (M.1 10)
  have q := RA_hours (n := n) (RA_bec (x := M.1 1) r)
  unfold metC mtV
  rw [met_eq q.1.1 q.1.2]; rfl
section Calls6
variable {M : ex_M} {np ne : Nat}
theorem E_news {p n : Int32} (h : Rel M) (r : RA (M.1 0) (M.1 10) np ne) : Eq2 (D_news M np ne p n) (fun N => R_news N np ne p n) := by
  have e3 : M.1 10 3 = M.1 0 3 := r.2
  have ea := h.2.2.1
  unfold D_news D_noOne
  cases ho : (out p 0 (M.1 0 3 - 1) || out n 0 72) with
  | true =>
    refine Eq2_bad h (by omega) ?_
    unfold R_news; rw [show (bad M 0).2.1 10 3 = M.1 0 3 from e3, ho]; rfl
  | false =>
    obtain ⟨o1, -⟩ := Bool.or_eq_false_iff.mp ho
    obtain ⟨i, hi, rfl⟩ := out_ix r.1.1.1.1 r.1.1.1.2.1 o1
    have hnp := r.1.1.1.2.1
    have ci : ix (nI i) = i := nI_clamp (by omega)
    rw [cond_false]
    have ez : zNews M np ne (nI i) n = lpB np ne np (ix n) (fun e => hb (M.1 0 (28 + 7 * i + 6)) (nI e)) (fun e b => oHear b i ((1 : Int32) <<< (nI e &&& 31))) (fun t => t (28 + 7 * i + 2)) (M.1 0) ne 0 (hoursC np ne (ix n) (tro M np ne), bst0 (M.1 3) (hoursC np ne (ix n) (tro M np ne) (28 + 7 * i + 2))) := by unfold zNews; rw [ci]
    generalize zNews M np ne (nI i) n = z at ez
    have key : ∀ N0 : ex_M, N0.1 10 = M.1 10 → N0.1 14 1 = -1 → ∃ w : ex_M × Int32 × Int32, R_news N0 np ne (nI i) n = orNR (mJ w.1 10 (28 + 7 * i + 6) (N0.1 10 (28 + 7 * i + 6))) w.2.1 ∧ IK (fun _ => False) N0 (mJ w.1 10 (28 + 7 * i + 6) (N0.1 10 (28 + 7 * i + 6))) ∧ (mJ w.1 10 (28 + 7 * i + 6) (N0.1 10 (28 + 7 * i + 6))).1 14 1 = -1 ∧ CB True (-1) z.2 w.2 ∧ z.2 0 = M.1 3 0 ∧ z.2 3 = M.1 3 3 := fun N0 n1 n2 => by
      have k := nw_core h r hi n1 z ez _ rfl
      refine ⟨_, ?_, IK_no (fun j q => q.2 q.1) (IK_put k.1 rfl), k.2.1.trans n2, k.2.2⟩
      unfold R_news zNwR
      rw [n1, n2, e3, ho, ci, cond_false]
    unfold orN
    by_cases hn : z.2 1 = -1000000004
    · rw [if_pos hn]
      obtain ⟨w, k1, k2, k3, k4, k5, k6⟩ := key (bad (fin3 M z) 3).2 rfl ea
      rcases k4.2.2 with ⟨-, q1, q2⟩ | ⟨k, hk, q1, q2⟩
      · show (R_news (bad (fin3 M z) 3).2 np ne (nI i) n).1 = _ ∧ Rel (R_news (bad (fin3 M z) 3).2 np ne (nI i) n).2
        rw [k1, q2, orNR_no]
        exact ⟨rfl, Rel_IKn h r z k5 k6 rfl k2 k3⟩
      · rw [q1] at hn; exact absurd hn (none_nI hk)
    · rw [if_neg hn]
      obtain ⟨w, k1, k2, k3, k4, k5, k6⟩ := key (fin3 M z) rfl ea
      rcases k4.2.2 with ⟨-, q1, q2⟩ | ⟨k, hk, q1, q2⟩
      · exact absurd q1 hn
      · refine Eq2_ok (N2 := mJ w.1 10 (28 + 7 * i + 6) ((fin3 M z).1 10 (28 + 7 * i + 6))) ?_ (Rel_IKb h r z k5 k6 rfl k2 k3)
        rw [k1, q2, orNR_ok hk, q1]
theorem E_needed {n : Int32} (h : Rel M) (r : RA (M.1 0) (M.1 10) np ne) : Eq2 (D_needed M np ne n) (fun N => R_needed N np ne n) := by
  have ea := h.2.2.1
  unfold D_needed
  cases ho : out n 0 72 with
  | true =>
    refine Eq2_bad h (by omega) ?_
    unfold R_needed; rw [ho]; rfl
  | false =>
    rw [cond_false]
    have ez : zNeed M np ne n = lpB np ne (np - 1) (ix n) (fun _ => false) (fun i b => sendAw i np b) (fun t => -metC t ne) (M.1 0) np 0 (hoursC np ne (ix n) (tro M np ne), bst0 (M.1 3) (-metC (hoursC np ne (ix n) (tro M np ne)) ne)) := by unfold zNeed; rfl
    generalize zNeed M np ne n = z at ez
    have key : ∀ N0 : ex_M, N0.1 10 = M.1 10 → N0.1 14 1 = -1 → ∃ w : ex_M × Int32 × Int32, R_needed N0 np ne n = orNR (mJ w.1 14 1 (-1)) w.2.1 ∧ IK (fun _ => False) N0 (mJ w.1 14 1 (-1)) ∧ (mJ w.1 14 1 (-1)).1 14 1 = -1 ∧ CD z.2 w.2 ∧ z.2 0 = M.1 3 0 ∧ z.2 3 = M.1 3 3 := fun N0 n1 n2 => by
      have k := nd_core h r n1 z ez _ rfl
      refine ⟨_, ?_, IK_14 (Or.inl rfl) k.1, rfl, k.2⟩
      unfold R_needed zNdR
      rw [n1, n2, ho, cond_false]
    unfold orN
    by_cases hn : z.2 1 = -1000000004
    · rw [if_pos hn]
      obtain ⟨w, k1, k2, k3, k4, k5, k6⟩ := key (bad (fin3 M z) 3).2 rfl ea
      rcases k4.2.2 with ⟨q1, q2⟩ | ⟨k, hk, q1, q2⟩
      · show (R_needed (bad (fin3 M z) 3).2 np ne n).1 = _ ∧ Rel (R_needed (bad (fin3 M z) 3).2 np ne n).2
        rw [k1, q2, orNR_no]
        exact ⟨rfl, Rel_IKn h r z k5 k6 rfl k2 k3⟩
      · rw [q1] at hn; exact absurd hn (none_nI hk)
    · rw [if_neg hn]
      obtain ⟨w, k1, k2, k3, k4, k5, k6⟩ := key (fin3 M z) rfl ea
      rcases k4.2.2 with ⟨q1, q2⟩ | ⟨k, hk, q1, q2⟩
      · exact absurd q1 hn
      · refine Eq2_ok (N2 := mJ w.1 14 1 (-1)) ?_ (Rel_IKb h r z k5 k6 rfl k2 k3)
        rw [k1, q2, orNR_ok hk, q1]
end Calls6
/-! the tape -/
theorem b255 : ∀ i, i < 32 → 8 ≤ i → (255#32).getLsbD i = false := by decide
theorem sh_bits {x : BitVec 32} {s : Nat} (hs : s ≤ 24) : (x >>> s) &&& 255#32 = (x.sshiftRight s) &&& 255#32 := by
  apply BitVec.eq_of_getLsbD_eq
  intro i hi
  rw [BitVec.getLsbD_and, BitVec.getLsbD_and]
  by_cases h8 : i < 8
  · rw [BitVec.getLsbD_ushiftRight, BitVec.getLsbD_sshiftRight, if_pos (by omega), decide_eq_false (by omega)]; rfl
  · rw [b255 i hi (by omega), Bool.and_false, Bool.and_false]
theorem sh_eq {b : Int32} {m : Nat} (hm : m < 4) : shR b m = shB b m := by
  apply Int32.toBitVec_inj.mp
  rcases (by omega : m = 0 ∨ m = 1 ∨ m = 2 ∨ m = 3) with e | e | e | e <;> subst e
  · exact (sh_bits (x := b.toBitVec) (s := 0) (by omega)).symm
  · exact (sh_bits (x := b.toBitVec) (s := 8) (by omega)).symm
  · exact (sh_bits (x := b.toBitVec) (s := 16) (by omega)).symm
  · exact (sh_bits (x := b.toBitVec) (s := 24) (by omega)).symm
theorem and255 (x : Int32) : ¬ x &&& 255 < 0 := by
  have h : (x &&& 255).toBitVec.toNat < 256 := by
    show (x.toBitVec &&& 255#32).toNat < 256
    rw [BitVec.toNat_and]
    exact Nat.lt_of_le_of_lt Nat.and_le_right (by decide)
  have e : x &&& 255 = nI (x &&& 255).toBitVec.toNat := by
    apply Int32.toBitVec_inj.mp
    apply BitVec.eq_of_toNat_eq
    show _ = (BitVec.ofNat 32 _).toNat
    rw [BitVec.toNat_ofNat, Nat.mod_eq_of_lt (by omega)]
  rw [e]
  exact nI_pos (by omega)
theorem feed_t {b : Int32} : ∀ m l (M N : ex_M), m ≤ 4 → (∀ j, j < l → N.1 15 j = M.1 4 j ∧ ¬ N.1 15 j < 0) → ∀ j, j < l + m → (fdR b m l N).1 15 j = (fdL b m l M).1 4 j ∧ ¬ (fdR b m l N).1 15 j < 0
  | 0, _, _, _, _, h => h
  | m + 1, l, M, N, hm, h => by
    intro j hj
    rw [fdR, fdL]
    refine feed_t m (l + 1) _ _ (by omega) (fun k hk => ?_) j (by omega)
    have e1 : (rapp N l (shR b m)).1 15 = upd (N.1 15) l (shR b m) := by simp only [rapp, mJ, wr_s, wr_n (show (15 : Nat) ≠ 14 by decide)]
    have e2 : (app M l (shB b m)).1 4 = upd (M.1 4) l (shB b m) := by simp only [app, mJ, wr_s, wr_n (show (4 : Nat) ≠ 3 by decide)]
    rw [e1, e2]
    by_cases hkl : k = l
    · rw [hkl, ud_s, ud_s]
      exact ⟨sh_eq (by omega), and255 _⟩
    · rw [ud_n hkl, ud_n hkl]; exact h k (by omega)
theorem fdL_q {b : Int32} {q : Nat} (h3 : q ≠ 3) (h4 : q ≠ 4) : ∀ m l M, (fdL b m l M).1 q = M.1 q
  | 0, _, _ => rfl
  | m + 1, l, M => by rw [fdL, fdL_q h3 h4 m]; simp only [app, mJ, wr_n h3, wr_n h4]
theorem fdL_2 {b : Int32} : ∀ m l M, (fdL b m l M).2 = M.2
  | 0, _, _ => rfl
  | m + 1, l, M => by rw [fdL, fdL_2 m]; rfl
theorem fdL_k {b : Int32} {k : Nat} (hk : k ≠ 3) : ∀ m l M, (fdL b m l M).1 3 k = M.1 3 k
  | 0, _, _ => rfl
  | m + 1, l, M => by rw [fdL, fdL_k hk m]; simp only [app, mJ, wr_s, wr_n (show (3 : Nat) ≠ 4 by decide)]; rw [ud_n hk]
theorem fdR_q {b : Int32} {q : Nat} (h3 : q ≠ 14) (h4 : q ≠ 15) : ∀ m l M, (fdR b m l M).1 q = M.1 q
  | 0, _, _ => rfl
  | m + 1, l, M => by rw [fdR, fdR_q h3 h4 m]; simp only [rapp, mJ, wr_n h3, wr_n h4]
theorem fdR_2 {b : Int32} : ∀ m l M, (fdR b m l M).2 = M.2
  | 0, _, _ => rfl
  | m + 1, l, M => by rw [fdR, fdR_2 m]; rfl
theorem fdR_k {b : Int32} {k : Nat} (hk : k ≠ 3) : ∀ m l M, (fdR b m l M).1 14 k = M.1 14 k
  | 0, _, _ => rfl
  | m + 1, l, M => by rw [fdR, fdR_k hk m]; simp only [rapp, mJ, wr_s, wr_n (show (14 : Nat) ≠ 15 by decide)]; rw [ud_n hk]
theorem E_feed {M : ex_M} {b n : Int32} (h : Rel M) : Eq2 (D_feed M b n) (fun N => R_feed N b n) := by
  obtain ⟨l, hl, t1, t2, t3⟩ := h.2.2.2.2.1
  unfold D_feed
  cases ho : out n 1 4 with
  | true =>
    refine Eq2_bad h (by omega) ?_
    unfold R_feed; rw [ho]; rfl
  | false =>
    rw [cond_false]
    obtain ⟨m, hm, rfl⟩ := out_1 (n := 4) (by decide) ho
    have cm : ix (nI m) = m := nI_clamp (by omega)
    have cl : ix (nI l) = l := nI_clamp (by omega)
    by_cases hc : M.1 3 3 + nI m ≤ 120
    · rw [if_pos hc]
      rw [t1] at hc ⊢
      rw [cm, cl]
      have eR : R_feed (fdL b m l M) b (nI m) = (nI l + nI m, fdR b m l (fdL b m l M)) := by
        unfold R_feed
        rw [ho, cond_false, fdL_q (by decide) (by decide), t2, if_pos hc, cm, cl]
      refine Eq2_ok eR ?_
      have hle : l + m ≤ 120 := by
        rw [nI_add, show (120 : Int32) = nI 120 from rfl] at hc
        exact (nI_leI (by omega) (by omega)).mp hc
      have q0 : ∀ q, q ≠ 3 → q ≠ 4 → q ≠ 14 → q ≠ 15 → (fdR b m l (fdL b m l M)).1 q = M.1 q := fun q a1 a2 a3 a4 => by rw [fdR_q a3 a4, fdL_q a1 a2]
      have e3 : (fdR b m l (fdL b m l M)).1 3 = (fdL b m l M).1 3 := fdR_q (by decide) (by decide) m l _
      have e4 : (fdR b m l (fdL b m l M)).1 4 = (fdL b m l M).1 4 := fdR_q (by decide) (by decide) m l _
      have k14 : ∀ k, k ≠ 3 → (fdR b m l (fdL b m l M)).1 14 k = M.1 14 k := fun k hk => by rw [fdR_k hk, fdL_q (by decide) (by decide)]
      refine ⟨?_, ?_, ?_, ?_, ⟨l + m, hle, ?_, ?_, ?_⟩, ?_⟩
      · rw [q0 0 (by decide) (by decide) (by decide) (by decide), q0 10 (by decide) (by decide) (by decide) (by decide)]; exact h.1
      · unfold RK
        rw [e3, fdL_k (by decide), k14 0 (by decide), q0 2 (by decide) (by decide) (by decide) (by decide), q0 11 (by decide) (by decide) (by decide) (by decide)]; exact h.2.1
      · rw [k14 1 (by decide)]; exact h.2.2.1
      · rw [q0 5 (by decide) (by decide) (by decide) (by decide), q0 13 (by decide) (by decide) (by decide) (by decide)]; exact h.2.2.2.1
      · rw [e3]; exact fdL_3 b m l M t1
      · exact fdR_3 b m l _ (by rw [fdL_q (by decide) (by decide)]; exact t2)
      · rw [e4]
        exact feed_t m l M (fdL b m l M) hm (fun j hj => by rw [fdL_q (by decide) (by decide)]; exact t3 j hj)
      · unfold RH
        rw [q0 6 (by decide) (by decide) (by decide) (by decide), q0 17 (by decide) (by decide) (by decide) (by decide), q0 18 (by decide) (by decide) (by decide) (by decide), fdR_2, fdL_2]; exact h.2.2.2.2.2
    · rw [if_neg hc]
      refine Eq2_bad h (by omega) ?_
      unfold R_feed
      rw [ho, cond_false, show (bad M 1).2.1 14 3 = M.1 3 3 from t2.trans t1.symm, if_neg hc]
