theorem fCpO_eq (q : Nat → Int32) (i : Nat) (b : Nat → Int32) (k : Nat) : fCpO q i b k = if 28 + 7 * i ≤ k ∧ k < 28 + 7 * i + 7 then q k else b k := by
  unfold fCpO oCpy
  by_cases h : 28 + 7 * i ≤ k ∧ k < 28 + 7 * i + 7
  · rw [if_pos h]
    obtain ⟨f, hf, rfl⟩ : ∃ f, f < 7 ∧ k = 28 + 7 * i + f := ⟨k - (28 + 7 * i), by omega, by omega⟩
    rcases (by omega : f = 0 ∨ f = 1 ∨ f = 2 ∨ f = 3 ∨ f = 4 ∨ f = 5 ∨ f = 6) with e | e | e | e | e | e | e <;> subst e <;> simp [upd]
  · rw [if_neg h, ud_n (by omega), ud_n (by omega), ud_n (by omega), ud_n (by omega), ud_n (by omega), ud_n (by omega), ud_n (by omega)]
theorem fCpE_eq (q : Nat → Int32) (i : Nat) (b : Nat → Int32) (k : Nat) : fCpE q i b k = if 4 + 3 * i ≤ k ∧ k < 4 + 3 * i + 3 then q k else b k := by
  unfold fCpE eCpy
  by_cases h : 4 + 3 * i ≤ k ∧ k < 4 + 3 * i + 3
  · rw [if_pos h]
    obtain ⟨f, hf, rfl⟩ : ∃ f, f < 3 ∧ k = 4 + 3 * i + f := ⟨k - (4 + 3 * i), by omega, by omega⟩
    rcases (by omega : f = 0 ∨ f = 1 ∨ f = 2) with e | e | e <;> subst e <;> simp [upd]
  · rw [if_neg h, ud_n (by omega), ud_n (by omega), ud_n (by omega)]
theorem rpO_eq (q : Nat → Int32) (k : Nat) : ∀ m i b, rp (fCpO q) m i b k = if 28 + 7 * i ≤ k ∧ k < 28 + 7 * (i + m) then q k else b k
  | 0, i, b => by rw [rp, if_neg (by omega)]
  | m + 1, i, b => by
    rw [rp, rpO_eq q k m (i + 1), fCpO_eq]
    by_cases h1 : 28 + 7 * (i + 1) ≤ k ∧ k < 28 + 7 * (i + 1 + m)
    · rw [if_pos h1, if_pos (by omega)]
    · rw [if_neg h1]
      by_cases h2 : 28 + 7 * i ≤ k ∧ k < 28 + 7 * i + 7
      · rw [if_pos h2, if_pos (by omega)]
      · rw [if_neg h2, if_neg (by omega)]
theorem rpE_eq (q : Nat → Int32) (k : Nat) : ∀ m i b, rp (fCpE q) m i b k = if 4 + 3 * i ≤ k ∧ k < 4 + 3 * (i + m) then q k else b k
  | 0, i, b => by rw [rp, if_neg (by omega)]
  | m + 1, i, b => by
    rw [rp, rpE_eq q k m (i + 1), fCpE_eq]
    by_cases h1 : 4 + 3 * (i + 1) ≤ k ∧ k < 4 + 3 * (i + 1 + m)
    · rw [if_pos h1, if_pos (by omega)]
    · rw [if_neg h1]
      by_cases h2 : 4 + 3 * i ≤ k ∧ k < 4 + 3 * i + 3
      · rw [if_pos h2, if_pos (by omega)]
      · rw [if_neg h2, if_neg (by omega)]
/-- at its live places a river is as the one it became -/
theorem becR_live {a q : Nat → Int32} {np ne k : Nat} (hn2 : ne ≤ 8) (h : (4 ≤ k ∧ k < 4 + 3 * ne) ∨ (28 ≤ k ∧ k < 28 + 7 * np)) : becR a q np ne k = q k := by
  unfold becR
  rw [rpE_eq, rpO_eq]
  by_cases h1 : 4 + 3 * 0 ≤ k ∧ k < 4 + 3 * (0 + ne)
  · rw [if_pos h1]
  · rw [if_neg h1, if_pos (by omega)]
theorem WF_bec {a q : Nat → Int32} {np ne : Nat} (h : WF q np ne) : WF (becR a q np ne) np ne := by
  obtain ⟨e1, e2, e3, e4, e5, e6, e7⟩ := h
  refine ⟨by rw [becR_lo (by omega)]; exact e1, e2, by rw [becR_lo (by omega)]; exact e3, e4, fun e z => ?_, fun p z => ?_, fun p z => ?_⟩
  · rw [becR_live e4 (by omega)]; exact e5 e z
  · rw [becR_live e4 (by omega)]; exact e6 p z
  · rw [becR_live e4 (by omega)]; exact e7 p z
theorem WI_tr0 {M : ex_M} {np ne : Nat} (h : WF (M.1 0) np ne) : WI (tr0 M np ne) := ⟨np, ne, WF_bec h⟩
