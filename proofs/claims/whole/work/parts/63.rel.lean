/-! THE TWO SIDES' MEMORIES: what holds between them -/
def RA (a b : Nat → Int32) (np ne : Nat) : Prop := (WB a np ne ∧ Qr (fun i => i) np ne a b) ∧ b 3 = a 3
def RK (M : ex_M) : Prop := (M.1 3 0 = 0 ∨ M.1 3 0 = 1) ∧ M.1 14 0 = M.1 3 0 ∧ (¬ M.1 3 0 = 0 → ∃ kp ke, RA (M.1 2) (M.1 11) kp ke)
def RF (a b : Nat → Int32) : Prop := (∀ k, k < 7 → b (k + 1) = a k) ∧ b 0 = tolF a 7 0 0
def RT (M : ex_M) : Prop := ∃ l, l ≤ 120 ∧ M.1 3 3 = nI l ∧ M.1 14 3 = nI l ∧ ∀ j, j < l → M.1 15 j = M.1 4 j ∧ ¬ M.1 15 j < 0
def RH (M : ex_M) : Prop := ∀ s, s < 4 → M.1 17 s = M.1 6 (2 * s + 0) ∧ M.1 18 s = M.1 6 (2 * s + 1) ∧ (∃ l, l ≤ 40 ∧ M.1 6 (2 * s + 1) = nI l) ∧ ∀ i, i < 40 → M.2 4 (40 * s + i) = M.2 s i
def Rel (M : ex_M) : Prop := (∃ np ne, RA (M.1 0) (M.1 10) np ne) ∧ RK M ∧ M.1 14 1 = -1 ∧ RF (M.1 5) (M.1 13) ∧ RT M ∧ RH M
theorem RF_bad {a b : Nat → Int32} {k : Nat} (hk : k < 7) (h : RF a b) : RF (upd a k (a k + 1)) (upd (upd b (k + 1) (b (k + 1) + 1)) 0 (b 0 + 1)) := by
  refine ⟨fun j hj => ?_, ?_⟩
  · rw [ud_n (by omega)]
    by_cases e : j = k
    · subst e; rw [ud_s, ud_s, h.1 j hj]
    · rw [ud_n (by omega), ud_n e, h.1 j hj]
  · rw [ud_s, h.2]
    have e : ∀ (p : Nat → Int32), tolF p 7 0 0 = 0 + p 0 + p 1 + p 2 + p 3 + p 4 + p 5 + p 6 := fun p => rfl
    rw [e, e]
    rcases (by omega : k = 0 ∨ k = 1 ∨ k = 2 ∨ k = 3 ∨ k = 4 ∨ k = 5 ∨ k = 6) with z | z | z | z | z | z | z <;> subst z <;> simp only [upd] <;> simp <;> ac_rfl
/-- a finding, told on both sides -/
theorem Rel_bad {M : ex_M} {k : Nat} (hk : k < 7) (h : Rel M) : (rbad (bad M k).2 k).1 = (bad M k).1 ∧ Rel (rbad (bad M k).2 k).2 := by
  refine ⟨rfl, h.1, h.2.1, h.2.2.1, ?_, h.2.2.2.2.1, h.2.2.2.2.2⟩
  have q := RF_bad hk h.2.2.2.1
  have e : (rbad (bad M k).2 k).2.1 13 = upd (upd (M.1 13) (k + 1) (M.1 13 (k + 1) + 1)) 0 (M.1 13 0 + 1) := by
    simp only [rbad, bad, mJ, wr_s, wr_n (show (13 : Nat) ≠ 5 by decide)]
  have e2 : (rbad (bad M k).2 k).2.1 5 = upd (M.1 5) k (M.1 5 k + 1) := by
    simp only [rbad, bad, mJ, wr_s, wr_n (show (5 : Nat) ≠ 13 by decide)]
  rw [e, e2]
  exact q
/-- a call's answer and what it leaves, on both sides -/
def Eq2 {α : Type} (d : α × ex_M) (r : ex_M → α × ex_M) : Prop := (r d.2).1 = d.1 ∧ Rel (r d.2).2
section RAs
variable {a b : Nat → Int32} {np ne : Nat} {v : Int32}
theorem RA_p {i f : Nat} (h : RA a b np ne) (hi : i < np) (hf : f < 7) (w : WB (upd a (28 + 7 * i + f) v) np ne) : RA (upd a (28 + 7 * i + f) v) (upd b (28 + 7 * i + f) v) np ne :=
  ⟨⟨w, Qr_p (SG_id h.1.1.1.2.1) h.1.1.1.2.2.2.1 hi h.1.2 hf⟩, by rw [ud_n (by omega), ud_n (by omega)]; exact h.2⟩
theorem RA_e {k : Nat} (h : RA a b np ne) (hk : 4 ≤ k ∧ k < 28) (w : WB (upd a k v) np ne) : RA (upd a k v) (upd b k v) np ne :=
  ⟨⟨w, Qr_e h.1.1.1.2.2.2.1 hk h.1.2⟩, by rw [ud_n (by omega), ud_n (by omega)]; exact h.2⟩
theorem RA_0 {k : Nat} (h : RA a b np ne) (hk : k < 3) (w : WB (upd a k v) np ne) : RA (upd a k v) (upd b k v) np ne :=
  ⟨⟨w, Qr_0 hk h.1.2⟩, by rw [ud_n (by omega), ud_n (by omega)]; exact h.2⟩
theorem RA_ext {b2 : Nat → Int32} (h : RA a b np ne) (e : ∀ j, j < 84 → b2 j = b j) : RA a b2 np ne := by
  have h1 := h.1.1.1.2.1
  have h2 := h.1.1.1.2.2.2.1
  refine ⟨⟨h.1.1, fun j hj => ?_, fun j h4 hj => ?_, fun i f hi hf => ?_⟩, by rw [e 3 (by omega)]; exact h.2⟩
  · rw [e j (by omega)]; exact h.1.2.1 j hj
  · rw [e j (by omega)]; exact h.1.2.2.1 j h4 hj
  · show a (28 + 7 * i + f) = b2 (28 + 7 * i + f)
    rw [e _ (by omega)]; exact h.1.2.2.2 i f hi hf
theorem RA_n3 (h : RA a b np ne) : b 3 = a 3 := h.2
theorem RA_n {j : Nat} (h : RA a b np ne) (hj : j < 3) : b j = a j := (h.1.2.1 j hj).symm
theorem RA_ev {e f : Nat} (h : RA a b np ne) (he : e < ne) (hf : f < 3) : b (4 + 3 * e + f) = a (4 + 3 * e + f) := (h.1.2.2.1 _ (by omega) (by omega)).symm
theorem RA_pe {i f : Nat} (h : RA a b np ne) (hi : i < np) (hf : f < 7) : b (28 + 7 * i + f) = a (28 + 7 * i + f) := (h.1.2.2.2 i f hi hf).symm
theorem RA_WF (h : RA a b np ne) : WF b np ne := by
  obtain ⟨e1, e2, e3, e4, e5, e6, e7⟩ := h.1.1.1
  refine ⟨by rw [h.2]; exact e1, e2, by rw [RA_n h (by omega)]; exact e3, e4, fun e q => ?_, fun p q => ?_, fun p q => ?_⟩
  · rw [RA_ev h q (by omega)]; exact e5 e q
  · rw [RA_pe h q (by omega)]; exact e6 p q
  · rw [RA_pe h q (by omega)]; exact e7 p q
/-- an event more -/
theorem RA_E {x w : Int32} (h : RA a b np ne) (h8 : ne < 8) (h1 : -99 ≤ w) (h2 : w ≤ 99) : RA (upd (eBeg a ne x w) 2 (nI (ne + 1))) (upd (eBeg b ne x w) 2 (nI (ne + 1))) np (ne + 1) := by
  have hnp := h.1.1.1.2.1
  refine ⟨⟨⟨WF_E h.1.1.1 h8, ?_, fun p q => ?_, fun e q => ?_⟩, fun j hj => ?_, fun j h4 hj => ?_, fun i f hi hf => ?_⟩, ?_⟩
  · rw [ud_n (by omega), eBeg_lo (by omega)]; exact h.1.1.2.1
  · rw [ud_n (by omega), ud_n (by omega)]; unfold eBeg; rw [ud_n (by omega), ud_n (by omega), ud_n (by omega), ud_n (by omega), ud_n (by omega), ud_n (by omega)]; exact h.1.1.2.2.1 p q
  · rw [ud_n (by omega)]; unfold eBeg
    by_cases z : e = ne
    · subst z; rw [ud_n (by omega), ud_s]; exact ⟨h1, h2⟩
    · rw [ud_n (by omega), ud_n (by omega), ud_n (by omega)]; exact h.1.1.2.2.2 e (by omega)
  · by_cases z : j = 2
    · subst z; rw [ud_s, ud_s]
    · rw [ud_n z, ud_n z, eBeg_lo (by omega), eBeg_lo (by omega)]; exact h.1.2.1 j hj
  · rw [ud_n (by omega), ud_n (by omega)]; unfold eBeg
    by_cases z2 : j = 4 + 3 * ne + 2
    · subst z2; rw [ud_s, ud_s]
    · rw [ud_n z2, ud_n z2]
      by_cases z1 : j = 4 + 3 * ne + 1
      · subst z1; rw [ud_s, ud_s]
      · rw [ud_n z1, ud_n z1]
        by_cases z0 : j = 4 + 3 * ne + 0
        · subst z0; rw [ud_s, ud_s]
        · rw [ud_n z0, ud_n z0]; exact h.1.2.2.1 j h4 (by omega)
  · rw [ud_n (by omega), ud_n (by omega)]; unfold eBeg; rw [ud_n (by omega), ud_n (by omega), ud_n (by omega), ud_n (by omega), ud_n (by omega), ud_n (by omega)]; exact h.1.2.2.2 i f hi hf
  · rw [ud_n (by omega), ud_n (by omega), eBeg_lo (by omega), eBeg_lo (by omega)]; exact h.2
theorem oCom_at {i f : Nat} {k bk p g c : Int32} (hf : f < 7) : oCom a i k bk p g c (28 + 7 * i + f) = if f = 0 then k else if f = 1 then bk else if f = 2 then p else if f = 3 then g else if f = 4 then c else 0 := by
  unfold oCom
  rcases (by omega : f = 0 ∨ f = 1 ∨ f = 2 ∨ f = 3 ∨ f = 4 ∨ f = 5 ∨ f = 6) with e | e | e | e | e | e | e <;> subst e <;> simp [upd]
theorem oCom_ne {i j : Nat} {k bk p g c : Int32} (hj : j < 28 + 7 * i ∨ 28 + 7 * i + 6 < j) : oCom a i k bk p g c j = a j := by
  unfold oCom; rw [ud_n (by omega), ud_n (by omega), ud_n (by omega), ud_n (by omega), ud_n (by omega), ud_n (by omega), ud_n (by omega)]
theorem oBeg_oCom {i : Nat} {k bk : Int32} : oBeg a i k bk = oCom a i k bk 50 (-1) (-1) := rfl
/-- one more -/
theorem RA_O {k : Nat} {bk p g c : Int32} (h : RA a b np ne) (h8 : np < 8) (hk : k < 6) (hb : bk = 0 ∨ bk = 1) (hp : 0 ≤ p ∧ p ≤ 9999) : RA (upd (oCom a np (nI k) bk p g c) 3 (nI (np + 1))) (upd (oCom b np (nI k) bk p g c) 3 (nI (np + 1))) (np + 1) ne := by
  have hne := h.1.1.1.2.2.2.1
  obtain ⟨e1, e2, e3, e4, e5, e6, e7⟩ := h.1.1.1
  refine ⟨⟨⟨⟨by rw [ud_s], h8, by rw [ud_n (by omega), oCom_ne (by omega)]; exact e3, e4, fun e q => ?_, fun q hq => ?_, fun q hq => ?_⟩, ?_, fun q hq => ?_, fun e q => ?_⟩, fun j hj => ?_, fun j h4 hj => ?_, fun i f hi hf => ?_⟩, ?_⟩
  · rw [ud_n (by omega), oCom_ne (by omega)]; exact e5 e q
  · rw [ud_n (by omega)]
    by_cases z : q = np
    · subst z; rw [oCom_at (by omega)]; exact ⟨k, hk, rfl⟩
    · rw [oCom_ne (by omega)]; exact e6 q (by omega)
  · rw [ud_n (by omega)]
    by_cases z : q = np
    · subst z; rw [oCom_at (by omega)]; exact ⟨0, by omega, rfl⟩
    · rw [oCom_ne (by omega)]; exact e7 q (by omega)
  · rw [ud_n (by omega), oCom_ne (by omega)]; exact h.1.1.2.1
  · rw [ud_n (by omega), ud_n (by omega)]
    by_cases z : q = np
    · subst z; rw [oCom_at (by omega), oCom_at (by omega)]; exact ⟨hb, hp⟩
    · rw [oCom_ne (by omega), oCom_ne (by omega)]; exact h.1.1.2.2.1 q (by omega)
  · rw [ud_n (by omega), oCom_ne (by omega)]; exact h.1.1.2.2.2 e q
  · rw [ud_n (by omega), ud_n (by omega), oCom_ne (by omega), oCom_ne (by omega)]; exact h.1.2.1 j hj
  · rw [ud_n (by omega), ud_n (by omega), oCom_ne (by omega), oCom_ne (by omega)]; exact h.1.2.2.1 j h4 hj
  · show upd _ 3 _ (28 + 7 * i + f) = upd _ 3 _ (28 + 7 * i + f)
    rw [ud_n (by omega), ud_n (by omega)]
    by_cases z : i = np
    · subst z; rw [oCom_at hf, oCom_at hf]
    · rw [oCom_ne (by omega), oCom_ne (by omega)]; exact h.1.2.2.2 i f (by omega) hf
  · rw [ud_s, ud_s]
end RAs
theorem Rel_A {M : ex_M} {a b : Nat → Int32} {np ne : Nat} (h : Rel M) (r : RA a b np ne) : Rel (mI (mI M 0 a) 10 b) := ⟨⟨np, ne, r⟩, h.2.1, h.2.2.1, h.2.2.2.1, h.2.2.2.2.1, h.2.2.2.2.2⟩
/-! calls that only ask or set -/
section Calls1
variable {M : ex_M} {np ne : Nat}
theorem E_toll {v : Int32} (h : Rel M) (r : RA (M.1 0) (M.1 10) np ne) : Eq2 (D_toll M v) (fun N => R_toll N v) := by
  unfold D_toll
  cases ho : out v 0 99 with
  | true => simp only [Eq2, R_toll, ho, cond_true]; exact Rel_bad (by omega) h
  | false =>
    simp only [Eq2, R_toll, ho, cond_false]
    exact ⟨RA_n r (by omega), Rel_A h (RA_0 r (by omega) (WB_1 r.1.1 (out_rg ho)))⟩
theorem lt8_iff {n : Nat} (hn : n ≤ 8) : (nI n < 8 ↔ n < 8) ∧ (nI n = 8 ↔ n = 8) := by
  refine ⟨?_, ?_⟩
  · rw [show (8 : Int32) = nI 8 from rfl]; exact nI_ltI (by omega) (by omega)
  · rw [show (8 : Int32) = nI 8 from rfl]; exact nI_eq (by omega) (by omega)
theorem E_event {x w : Int32} (h : Rel M) (r : RA (M.1 0) (M.1 10) np ne) : Eq2 (D_event M x w) (fun N => R_event N x w) := by
  have hne := r.1.1.1.2.2.2.1
  have e2 : M.1 0 2 = nI ne := r.1.1.1.2.2.1
  have e2' : M.1 10 2 = nI ne := (RA_n r (by omega)).trans e2
  unfold D_event
  cases ho : (out x 0 9999 || out w (-99) 99) with
  | true => simp only [Eq2, R_event, ho, cond_true]; exact Rel_bad (by omega) h
  | false =>
    have ow : out w (-99) 99 = false := (Bool.or_eq_false_iff.mp ho).2
    by_cases h8 : ne < 8
    · have q : (!decide (M.1 0 2 < 8)) = false := by rw [e2, decide_eq_true ((lt8_iff hne).1.mpr h8)]; rfl
      simp only [Eq2, R_event, ho, q, cond_false]
      have q2 : ¬ (mI M 0 (upd (eBeg (M.1 0) (ix (M.1 0 2)) x w) 2 (M.1 0 2 + 1))).1 10 2 = 8 := by
        show ¬ M.1 10 2 = 8
        rw [e2']; exact fun z => by have := (lt8_iff hne).2.mp z; omega
      rw [if_neg q2]
      refine ⟨e2'.trans e2.symm, ?_⟩
      have k := RA_E (x := x) (w := w) r h8 (out_rg ow).1 (out_rg ow).2
      have c : ix (nI ne) = ne := nI_clamp (by omega)
      show Rel (mI (mI M 0 (upd (eBeg (M.1 0) (ix (M.1 0 2)) x w) 2 (M.1 0 2 + 1))) 10 (upd (eBeg (M.1 10) (ix (M.1 10 2)) x w) 2 (M.1 10 2 + 1)))
      rw [e2, e2', c, nI_1]
      exact Rel_A h k
    · have q : (!decide (M.1 0 2 < 8)) = true := by rw [e2, decide_eq_false (fun z => h8 ((lt8_iff hne).1.mp z))]; rfl
      simp only [Eq2, R_event, ho, q, cond_false, cond_true]
      have q2 : (bad M 1).2.1 10 2 = 8 := by
        show M.1 10 2 = 8
        rw [e2']; exact (lt8_iff hne).2.mpr (by omega)
      rw [if_pos q2]
      exact Rel_bad (by omega) h
theorem E_one {x w : Int32} (h : Rel M) (r : RA (M.1 0) (M.1 10) np ne) : Eq2 (D_one M x w) (fun N => R_one N x w) := by
  have hnp := r.1.1.1.2.1
  have e3 : M.1 0 3 = nI np := r.1.1.1.1
  have e3' : M.1 10 3 = nI np := r.2.trans e3
  unfold D_one
  cases ho : (out x 0 5 || out w 0 1) with
  | true => simp only [Eq2, R_one, ho, cond_true]; exact Rel_bad (by omega) h
  | false =>
    obtain ⟨ox, ow⟩ := Bool.or_eq_false_iff.mp ho
    obtain ⟨k, hk, rfl⟩ := out_nat (n := 5) (by decide) ox
    obtain ⟨j, hj, rfl⟩ := out_nat (n := 1) (by decide) ow
    by_cases h8 : np < 8
    · have q : (!decide (M.1 0 3 < 8)) = false := by rw [e3, decide_eq_true ((lt8_iff hnp).1.mpr h8)]; rfl
      simp only [Eq2, R_one, ho, q, cond_false]
      have q2 : ¬ (mI M 0 (upd (oBeg (M.1 0) (ix (M.1 0 3)) (nI k) (nI j)) 3 (M.1 0 3 + 1))).1 10 3 = 8 := by
        show ¬ M.1 10 3 = 8
        rw [e3']; exact fun z => by have := (lt8_iff hnp).2.mp z; omega
      rw [if_neg q2]
      refine ⟨e3'.trans e3.symm, ?_⟩
      have kk := RA_O (k := k) (bk := nI j) (p := 50) (g := -1) (c := -1) r h8 (by omega) (by rcases (by omega : j = 0 ∨ j = 1) with z | z <;> subst z <;> decide) (by decide)
      have c : ix (nI np) = np := nI_clamp (by omega)
      show Rel (mI (mI M 0 (upd (oBeg (M.1 0) (ix (M.1 0 3)) (nI k) (nI j)) 3 (M.1 0 3 + 1))) 10 (upd (oCom (M.1 10) (ix (M.1 10 3)) (nI k) (nI j) 50 (-1) (-1)) 3 (M.1 10 3 + 1)))
      rw [e3, e3', c, nI_1, oBeg_oCom]
      exact Rel_A h kk
    · have q : (!decide (M.1 0 3 < 8)) = true := by rw [e3, decide_eq_false (fun z => h8 ((lt8_iff hnp).1.mp z))]; rfl
      simp only [Eq2, R_one, ho, q, cond_false, cond_true]
      have q2 : (bad M 1).2.1 10 3 = 8 := by
        show M.1 10 3 = 8
        rw [e3']; exact (lt8_iff hnp).2.mpr (by omega)
      rw [if_pos q2]
      exact Rel_bad (by omega) h
end Calls1
