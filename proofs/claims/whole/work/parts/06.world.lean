/-! THE WORLD once both objects are made: 83 cells, whose numbers lie in rows of ints and rows of longs. Rows 0 to 2: the rivers (0 hour, 1 toll, 2 events, 3 people, 4 + 3 e + f an event, 28 + 7 p + f one), as the reference's row has them. -/
abbrev ex_M : Type := (Nat → Nat → Int32) × (Nat → Nat → Int64)
def wr {α : Type} (g : Nat → Nat → α) (r : Nat) (a : Nat → α) : Nat → Nat → α := fun q => if q = r then a else g q
theorem wr_s {α : Type} (g : Nat → Nat → α) (r : Nat) (a : Nat → α) : wr g r a r = a := by simp [wr]
theorem wr_n {α : Type} {g : Nat → Nat → α} {r q : Nat} {a : Nat → α} (h : q ≠ r) : wr g r a q = g q := by simp [wr, h]
theorem wr_wr {α : Type} (g : Nat → Nat → α) (r : Nat) (a b : Nat → α) : wr (wr g r a) r b = wr g r b := by funext q; by_cases h : q = r <;> simp [wr, h]
theorem wr_id {α : Type} (g : Nat → Nat → α) (r : Nat) : wr g r (g r) = g := by funext q; by_cases h : q = r <;> simp [wr, h]
theorem wr_swap {α : Type} (g : Nat → Nat → α) {r q : Nat} (h : r ≠ q) (a b : Nat → α) : wr (wr g r a) q b = wr (wr g q b) r a := by
  funext z
  by_cases h1 : z = r
  · subst h1; simp [wr, h]
  · by_cases h2 : z = q
    · subst h2; simp [wr, h1]
    · simp [wr, h1, h2]
abbrev mI (M : ex_M) (r : Nat) (a : Nat → Int32) : ex_M := (wr M.1 r a, M.2)
abbrev mJ (M : ex_M) (r k : Nat) (v : Int32) : ex_M := (wr M.1 r (upd (M.1 r) k v), M.2)
abbrev mL (M : ex_M) (r : Nat) (a : Nat → Int64) : ex_M := (M.1, wr M.2 r a)
def aR (r : Nat) : Nat := 1 + 19 * r
def aP (r : Nat) : Nat := 2 + 19 * r
def aO (r i : Nat) : Nat := 3 + 19 * r + i
def aQ (r : Nat) : Nat := 11 + 19 * r
def aE (r i : Nat) : Nat := 12 + 19 * r + i
def aS (s : Nat) : Nat := 62 + 2 * s
def aN (s : Nat) : Nat := 63 + 2 * s
abbrev ex_rf (n : Nat) (f : Nat → Nat) : Nat → Option Nat := fun i => if i < n then some (f i) else none
def ce_R (G : ex_G) (r : Nat) (a : Nat → Int32) : va_E := .inr (3, [.int (a 0), .int (a 1), .int (a 3), .int (a 2), .ref (ex_b G + aP r), .ref (ex_b G + aQ r)])
def ce_P (G : ex_G) (r : Nat) : va_E := .inl (ex_c G 2, 8, .inr (.inr (.inr (.inr (ex_rf 8 (fun i => ex_b G + aO r i))))))
def ce_O (a : Nat → Int32) (i : Nat) : va_E := .inr (2, [.int (a (28 + 7 * i + 0)), .int (a (28 + 7 * i + 1)), .int (a (28 + 7 * i + 2)), .int (a (28 + 7 * i + 3)), .int (a (28 + 7 * i + 4)), .int (a (28 + 7 * i + 5)), .int (a (28 + 7 * i + 6))])
def ce_Q (G : ex_G) (r : Nat) : va_E := .inl (ex_c G 3, 8, .inr (.inr (.inr (.inr (ex_rf 8 (fun i => ex_b G + aE r i))))))
def ce_E (a : Nat → Int32) (i : Nat) : va_E := .inr (1, [.int (a (4 + 3 * i + 0)), .int (a (4 + 3 * i + 1)), .int (a (4 + 3 * i + 2))])
def ce_rv (G : ex_G) (r : Nat) (a : Nat → Int32) (j : Nat) : va_E := if j = 0 then ce_R G r a else if j = 1 then ce_P G r else if j < 10 then ce_O a (j - 2) else if j = 10 then ce_Q G r else ce_E a (j - 11)
def ce_day (G : ex_G) (a : Nat → Int32) : va_E := .inr (6, [.ref (ex_b G + aR 0), .ref (ex_b G + aR 1), .ref (ex_b G + aR 2), .int (a 0), .ref (ex_b G + 58), .ref (ex_b G + 59), .ref (ex_b G + 61), .ref (ex_b G + 70)])
def ce_best (a : Nat → Int32) : va_E := .inr (0, [.int (a 1), .int (a 2)])
def ce_text (G : ex_G) (a : Nat → Int32) : va_E := .inr (5, [.ref (ex_b G + 60), .int (a 3), .int (a 4), .int (a 5), .int (a 6), .int (a 7), .int (a 8)])
def ce_sheets (G : ex_G) : va_E := .inl (ex_c G 4, 4, .inr (.inr (.inr (.inr (ex_rf 4 (fun i => ex_b G + aS i))))))
def ce_sheet (G : ex_G) (a : Nat → Int32) (s : Nat) : va_E := .inr (4, [.int (a (2 * s + 0)), .int (a (2 * s + 1)), .ref (ex_b G + aN s)])
def ce_ia (G : ex_G) (n : Nat) (a : Nat → Int32) : va_E := .inl (ex_c G 0, n, .inl a)
def ce_la (G : ex_G) (n : Nat) (a : Nat → Int64) : va_E := .inl (ex_c G 1, n, .inr (.inl a))
def ce_mod (G : ex_G) (a : Nat → Int32) : va_E := .inr (7, [.ref (ex_b G + 72), .ref (ex_b G + 73), .ref (ex_b G + 74), .int (a 0), .ref (ex_b G + 75), .int (a 1), .int (a 2), .ref (ex_b G + 76), .int (a 3), .int (a 4), .int (a 5), .int (a 6), .int (a 7), .int (a 8), .ref (ex_b G + 77), .ref (ex_b G + 78), .int (a 9), .int (a 10), .int (a 11), .ref (ex_b G + 79), .ref (ex_b G + 80), .ref (ex_b G + 81), .ref (ex_b G + 82)])
def ce_kinds (G : ex_G) : va_E := .inl (ex_c G 5, 6, .inr (.inr (.inr (.inr (ex_rf 6 (fun i => ex_sK G i))))))
def ce_hi (G : ex_G) (M : ex_M) (k : Nat) : va_E := match k with
  | 0 => ce_best (M.1 3)
  | 1 => ce_text G (M.1 3)
  | 2 => ce_ia G 120 (M.1 4)
  | 3 => ce_sheets G
  | 4 => ce_sheet G (M.1 6) 0
  | 5 => ce_la G 40 (M.2 0)
  | 6 => ce_sheet G (M.1 6) 1
  | 7 => ce_la G 40 (M.2 1)
  | 8 => ce_sheet G (M.1 6) 2
  | 9 => ce_la G 40 (M.2 2)
  | 10 => ce_sheet G (M.1 6) 3
  | 11 => ce_la G 40 (M.2 3)
  | 12 => ce_ia G 7 (M.1 5)
  | 13 => ce_mod G (M.1 14)
  | 14 => ce_ia G 84 (M.1 10)
  | 15 => ce_ia G 84 (M.1 11)
  | 16 => ce_ia G 84 (M.1 12)
  | 17 => ce_ia G 8 (M.1 13)
  | 18 => ce_ia G 120 (M.1 15)
  | 19 => ce_kinds G
  | 20 => ce_ia G 600 (M.1 16)
  | 21 => ce_ia G 4 (M.1 17)
  | 22 => ce_ia G 4 (M.1 18)
  | 23 => ce_la G 160 (M.2 4)
  | 24 => ce_la G 40 (M.2 5)
  | _ => ce_la G 40 (M.2 6)
def ce_at (G : ex_G) (M : ex_M) (k : Nat) : va_E := if k = 0 then ce_day G (M.1 3) else if k < 58 then ce_rv G ((k - 1) / 19) (M.1 ((k - 1) / 19)) ((k - 1) % 19) else ce_hi G M (k - 58)
def ce (G : ex_G) (M : ex_M) : List va_E := (List.range 83).map (ce_at G M)
theorem ce_len (G : ex_G) (M : ex_M) : (ce G M).length = 83 := by simp [ce]
theorem ce_get {G : ex_G} {M : ex_M} {k : Nat} (h : k < 83) : (ce G M)[k]? = some (ce_at G M k) := by simp [ce, h]
theorem ce_set {G : ex_G} {M M2 : ex_M} {k : Nat} {x : va_E} (hx : x = ce_at G M2 k) (ho : ∀ j, j < 83 → j ≠ k → ce_at G M2 j = ce_at G M j) : (ce G M).set k x = ce G M2 := by
  apply List.ext_getElem?
  intro j
  rw [List.getElem?_set]
  by_cases hj : k = j
  · subst hj
    by_cases hl : k < 83
    · simp [ce, hl, hx]
    · simp [ce, hl]
  · rw [if_neg hj]
    by_cases hl : j < 83
    · rw [ce_get hl, ce_get hl, ho j hl (Ne.symm hj)]
    · simp [ce, hl]
/-! where each kind of cell lies -/
theorem at_rv {G : ex_G} {M : ex_M} {r j : Nat} (hr : r < 3) (hj : j < 19) : ce_at G M (1 + 19 * r + j) = ce_rv G r (M.1 r) j := by
  have h1 : (1 + 19 * r + j - 1) / 19 = r := by omega
  have h2 : (1 + 19 * r + j - 1) % 19 = j := by omega
  unfold ce_at
  rw [if_neg (by omega), if_pos (by omega), h1, h2]
theorem w_R {G : ex_G} {M : ex_M} {r : Nat} (hr : r < 3) : (ce G M)[aR r]? = some (ce_R G r (M.1 r)) := by
  rw [ce_get (by unfold aR; omega)]
  have := at_rv (G := G) (M := M) (j := 0) hr (by omega)
  rw [show aR r = 1 + 19 * r + 0 from rfl, this]
  rfl
theorem w_P {G : ex_G} {M : ex_M} {r : Nat} (hr : r < 3) : (ce G M)[aP r]? = some (ce_P G r) := by
  rw [ce_get (by unfold aP; omega)]
  have := at_rv (G := G) (M := M) (j := 1) hr (by omega)
  rw [show aP r = 1 + 19 * r + 1 by unfold aP; omega, this]
  rfl
theorem w_Q {G : ex_G} {M : ex_M} {r : Nat} (hr : r < 3) : (ce G M)[aQ r]? = some (ce_Q G r) := by
  rw [ce_get (by unfold aQ; omega)]
  have := at_rv (G := G) (M := M) (j := 10) hr (by omega)
  rw [show aQ r = 1 + 19 * r + 10 by unfold aQ; omega, this]
  rfl
theorem w_O {G : ex_G} {M : ex_M} {r i : Nat} (hr : r < 3) (hi : i < 8) : (ce G M)[aO r i]? = some (ce_O (M.1 r) i) := by
  rw [ce_get (by unfold aO; omega)]
  have := at_rv (G := G) (M := M) (j := i + 2) hr (by omega)
  rw [show aO r i = 1 + 19 * r + (i + 2) by unfold aO; omega, this]
  unfold ce_rv
  rw [if_neg (by omega), if_neg (by omega), if_pos (by omega)]
  rfl
theorem w_E {G : ex_G} {M : ex_M} {r i : Nat} (hr : r < 3) (hi : i < 8) : (ce G M)[aE r i]? = some (ce_E (M.1 r) i) := by
  rw [ce_get (by unfold aE; omega)]
  have := at_rv (G := G) (M := M) (j := i + 11) hr (by omega)
  rw [show aE r i = 1 + 19 * r + (i + 11) by unfold aE; omega, this]
  unfold ce_rv
  rw [if_neg (by omega), if_neg (by omega), if_neg (by omega), if_neg (by omega)]
  rfl
theorem w_S {G : ex_G} {M : ex_M} {s : Nat} (hs : s < 4) : (ce G M)[aS s]? = some (ce_sheet G (M.1 6) s) := by
  rcases (by omega : s = 0 ∨ s = 1 ∨ s = 2 ∨ s = 3) with h | h | h | h <;> subst h <;> rfl
theorem w_N {G : ex_G} {M : ex_M} {s : Nat} (hs : s < 4) : (ce G M)[aN s]? = some (ce_la G 40 (M.2 s)) := by
  rcases (by omega : s = 0 ∨ s = 1 ∨ s = 2 ∨ s = 3) with h | h | h | h <;> subst h <;> rfl
/-! what a write leaves as it is -/
theorem at_keepI {G : ex_G} {M : ex_M} {r : Nat} {a : Nat → Int32} (k : Nat) (h : k = 0 ∨ 58 ≤ k ∨ (k - 1) / 19 ≠ r) (h0 : k = 0 → r ≠ 3) (hh : 58 ≤ k → ce_hi G (mI M r a) (k - 58) = ce_hi G M (k - 58)) : ce_at G (mI M r a) k = ce_at G M k := by
  unfold ce_at
  by_cases h1 : k = 0
  · rw [if_pos h1, if_pos h1]
    show ce_day G (wr M.1 r a 3) = _
    rw [wr_n (Ne.symm (h0 h1))]
  · rw [if_neg h1, if_neg h1]
    by_cases h2 : k < 58
    · rw [if_pos h2, if_pos h2]
      show ce_rv G _ (wr M.1 r a _) _ = _
      rw [wr_n (by omega)]
    · rw [if_neg h2, if_neg h2]
      exact hh (by omega)
theorem at_keepL {G : ex_G} {M : ex_M} {r : Nat} {a : Nat → Int64} (k : Nat) (hh : 58 ≤ k → ce_hi G (mL M r a) (k - 58) = ce_hi G M (k - 58)) : ce_at G (mL M r a) k = ce_at G M k := by
  unfold ce_at
  by_cases h1 : k = 0
  · rw [if_pos h1, if_pos h1]
  · rw [if_neg h1, if_neg h1]
    by_cases h2 : k < 58
    · rw [if_pos h2, if_pos h2]
    · rw [if_neg h2, if_neg h2]
      exact hh (by omega)
theorem ce_hi_rv {G : ex_G} {M : ex_M} {r : Nat} (hr : r < 3) {a : Nat → Int32} (k : Nat) : ce_hi G (mI M r a) k = ce_hi G M k := by
  unfold ce_hi
  split <;> first | rfl | (simp only [mI]; rw [wr_n (by omega)])
/-- a write to a river's row that leaves a cell's numbers leaves the cell -/
theorem ce_setrv {G : ex_G} {M : ex_M} {r j : Nat} {a : Nat → Int32} {x : va_E} (hr : r < 3) (hj : j < 19) (hx : x = ce_rv G r a j) (ho : ∀ i, i < 19 → i ≠ j → ce_rv G r a i = ce_rv G r (M.1 r) i) : (ce G M).set (1 + 19 * r + j) x = ce G (mI M r a) := by
  refine ce_set ?_ ?_
  · rw [at_rv hr hj, hx]
    show _ = ce_rv G r (wr M.1 r a r) j
    rw [wr_s]
  · intro k hk hne
    by_cases h : k = 0 ∨ 58 ≤ k ∨ (k - 1) / 19 ≠ r
    · exact at_keepI k h (fun _ => by omega) (fun _ => ce_hi_rv hr _)
    · have hk2 : k = 1 + 19 * r + (k - 1) % 19 := by omega
      have hlt : (k - 1) % 19 < 19 := by omega
      rw [hk2, at_rv hr hlt, at_rv hr hlt]
      show ce_rv G r (wr M.1 r a r) _ = _
      rw [wr_s]
      exact ho _ hlt (by omega)
theorem ce_rv_upd {G : ex_G} {r i k : Nat} {a : Nat → Int32} {v : Int32} (h0 : i = 0 → k ≠ 0 ∧ k ≠ 1 ∧ k ≠ 2 ∧ k ≠ 3) (hO : 2 ≤ i → i < 10 → k < 28 + 7 * (i - 2) ∨ 28 + 7 * (i - 2) + 6 < k) (hE : 11 ≤ i → k < 4 + 3 * (i - 11) ∨ 4 + 3 * (i - 11) + 2 < k) : ce_rv G r (upd a k v) i = ce_rv G r a i := by
  unfold ce_rv
  by_cases h1 : i = 0
  · rw [if_pos h1, if_pos h1]
    obtain ⟨e0, e1, e2, e3⟩ := h0 h1
    simp [ce_R, upd, Ne.symm e0, Ne.symm e1, Ne.symm e2, Ne.symm e3]
  · rw [if_neg h1, if_neg h1]
    by_cases h2 : i = 1
    · rw [if_pos h2, if_pos h2]
    · rw [if_neg h2, if_neg h2]
      by_cases h3 : i < 10
      · rw [if_pos h3, if_pos h3]
        have := hO (by omega) h3
        have e : ∀ f, f < 7 → upd a k v (28 + 7 * (i - 2) + f) = a (28 + 7 * (i - 2) + f) := fun f hf => by
          unfold upd; rw [if_neg (by omega)]
        unfold ce_O
        rw [e 0 (by omega), e 1 (by omega), e 2 (by omega), e 3 (by omega), e 4 (by omega), e 5 (by omega), e 6 (by omega)]
      · rw [if_neg h3, if_neg h3]
        by_cases h4 : i = 10
        · rw [if_pos h4, if_pos h4]
        · rw [if_neg h4, if_neg h4]
          have := hE (by omega)
          have e : ∀ f, f < 3 → upd a k v (4 + 3 * (i - 11) + f) = a (4 + 3 * (i - 11) + f) := fun f hf => by
            unfold upd; rw [if_neg (by omega)]
          unfold ce_E
          rw [e 0 (by omega), e 1 (by omega), e 2 (by omega)]
theorem s_R {G : ex_G} {M : ex_M} {r k : Nat} {v : Int32} {x : va_E} (hr : r < 3) (hk : k < 4) (hx : x = ce_R G r (upd (M.1 r) k v)) : (ce G M).set (aR r) x = ce G (mJ M r k v) :=
  ce_setrv (j := 0) hr (by omega) hx (fun i hi hne => ce_rv_upd (fun h => absurd h hne) (fun _ _ => by omega) (fun _ => by omega))
theorem s_O {G : ex_G} {M : ex_M} {r i f : Nat} {v : Int32} {x : va_E} (hr : r < 3) (hi : i < 8) (hf : f < 7) (hx : x = ce_O (upd (M.1 r) (28 + 7 * i + f) v) i) : (ce G M).set (aO r i) x = ce G (mJ M r (28 + 7 * i + f) v) := by
  rw [show aO r i = 1 + 19 * r + (i + 2) by unfold aO; omega]
  refine ce_setrv hr (by omega) ?_ (fun j hj hne => ce_rv_upd (fun _ => by omega) (fun _ _ => by omega) (fun _ => by omega))
  rw [hx]
  unfold ce_rv
  rw [if_neg (by omega), if_neg (by omega), if_pos (by omega)]
  rfl
theorem s_E {G : ex_G} {M : ex_M} {r i f : Nat} {v : Int32} {x : va_E} (hr : r < 3) (hi : i < 8) (hf : f < 3) (hx : x = ce_E (upd (M.1 r) (4 + 3 * i + f) v) i) : (ce G M).set (aE r i) x = ce G (mJ M r (4 + 3 * i + f) v) := by
  rw [show aE r i = 1 + 19 * r + (i + 11) by unfold aE; omega]
  refine ce_setrv hr (by omega) ?_ (fun j hj hne => ce_rv_upd (fun _ => by omega) (fun _ _ => by omega) (fun _ => by omega))
  rw [hx]
  unfold ce_rv
  rw [if_neg (by omega), if_neg (by omega), if_neg (by omega), if_neg (by omega)]
  rfl
/-- a write to a row above the rivers': the cells that do not read it stay -/
theorem ce_sethi {G : ex_G} {M : ex_M} {r k : Nat} {a : Nat → Int32} {x : va_E} (hr : 4 ≤ r) (hk : k < 25) (hx : x = ce_hi G (mI M r a) k) (ho : ∀ j, j < 25 → j ≠ k → ce_hi G (mI M r a) j = ce_hi G M j) : (ce G M).set (58 + k) x = ce G (mI M r a) := by
  refine ce_set ?_ ?_
  · unfold ce_at
    rw [if_neg (by omega), if_neg (by omega), hx, show 58 + k - 58 = k by omega]
  · intro j hj hne
    exact at_keepI j (by omega) (fun _ => by omega) (fun h => ho _ (by omega) (by omega))
theorem ce_sethiL {G : ex_G} {M : ex_M} {r k : Nat} {a : Nat → Int64} {x : va_E} (hk : k < 25) (hx : x = ce_hi G (mL M r a) k) (ho : ∀ j, j < 25 → j ≠ k → ce_hi G (mL M r a) j = ce_hi G M j) : (ce G M).set (58 + k) x = ce G (mL M r a) := by
  refine ce_set ?_ ?_
  · unfold ce_at
    rw [if_neg (by omega), if_neg (by omega), hx, show 58 + k - 58 = k by omega]
  · intro j hj hne
    exact at_keepL j (fun h => ho _ (by omega) (by omega))
theorem w_bytes {G : ex_G} {M : ex_M} : (ce G M)[60]? = some (ce_ia G 120 (M.1 4)) := rfl
theorem s_bytes {G : ex_G} {M : ex_M} {a : Nat → Int32} : (ce G M).set 60 (ce_ia G 120 a) = ce G (mI M 4 a) := by
  refine ce_sethi (k := 2) (by omega) (by omega) ?_ ?_
  · show _ = ce_ia G 120 (wr M.1 4 a 4)
    rw [wr_s]
  · intro j hj hne
    unfold ce_hi
    split <;> first | rfl | omega | (simp only [mI]; rw [wr_n (by omega)])
theorem w_told {G : ex_G} {M : ex_M} : (ce G M)[70]? = some (ce_ia G 7 (M.1 5)) := rfl
theorem s_told {G : ex_G} {M : ex_M} {a : Nat → Int32} : (ce G M).set 70 (ce_ia G 7 a) = ce G (mI M 5 a) := by
  refine ce_sethi (k := 12) (by omega) (by omega) ?_ ?_
  · show _ = ce_ia G 7 (wr M.1 5 a 5)
    rw [wr_s]
  · intro j hj hne
    unfold ce_hi
    split <;> first | rfl | omega | (simp only [mI]; rw [wr_n (by omega)])
theorem w_now {G : ex_G} {M : ex_M} : (ce G M)[72]? = some (ce_ia G 84 (M.1 10)) := rfl
theorem s_now {G : ex_G} {M : ex_M} {a : Nat → Int32} : (ce G M).set 72 (ce_ia G 84 a) = ce G (mI M 10 a) := by
  refine ce_sethi (k := 14) (by omega) (by omega) ?_ ?_
  · show _ = ce_ia G 84 (wr M.1 10 a 10)
    rw [wr_s]
  · intro j hj hne
    unfold ce_hi
    split <;> first | rfl | omega | (simp only [mI]; rw [wr_n (by omega)])
theorem w_kept {G : ex_G} {M : ex_M} : (ce G M)[73]? = some (ce_ia G 84 (M.1 11)) := rfl
theorem s_kept {G : ex_G} {M : ex_M} {a : Nat → Int32} : (ce G M).set 73 (ce_ia G 84 a) = ce G (mI M 11 a) := by
  refine ce_sethi (k := 15) (by omega) (by omega) ?_ ?_
  · show _ = ce_ia G 84 (wr M.1 11 a 11)
    rw [wr_s]
  · intro j hj hne
    unfold ce_hi
    split <;> first | rfl | omega | (simp only [mI]; rw [wr_n (by omega)])
theorem w_aside {G : ex_G} {M : ex_M} : (ce G M)[74]? = some (ce_ia G 84 (M.1 12)) := rfl
theorem s_aside {G : ex_G} {M : ex_M} {a : Nat → Int32} : (ce G M).set 74 (ce_ia G 84 a) = ce G (mI M 12 a) := by
  refine ce_sethi (k := 16) (by omega) (by omega) ?_ ?_
  · show _ = ce_ia G 84 (wr M.1 12 a 12)
    rw [wr_s]
  · intro j hj hne
    unfold ce_hi
    split <;> first | rfl | omega | (simp only [mI]; rw [wr_n (by omega)])
theorem w_found {G : ex_G} {M : ex_M} : (ce G M)[75]? = some (ce_ia G 8 (M.1 13)) := rfl
theorem s_found {G : ex_G} {M : ex_M} {a : Nat → Int32} : (ce G M).set 75 (ce_ia G 8 a) = ce G (mI M 13 a) := by
  refine ce_sethi (k := 17) (by omega) (by omega) ?_ ?_
  · show _ = ce_ia G 8 (wr M.1 13 a 13)
    rw [wr_s]
  · intro j hj hne
    unfold ce_hi
    split <;> first | rfl | omega | (simp only [mI]; rw [wr_n (by omega)])
theorem w_tape {G : ex_G} {M : ex_M} : (ce G M)[76]? = some (ce_ia G 120 (M.1 15)) := rfl
theorem s_tape {G : ex_G} {M : ex_M} {a : Nat → Int32} : (ce G M).set 76 (ce_ia G 120 a) = ce G (mI M 15 a) := by
  refine ce_sethi (k := 18) (by omega) (by omega) ?_ ?_
  · show _ = ce_ia G 120 (wr M.1 15 a 15)
    rw [wr_s]
  · intro j hj hne
    unfold ce_hi
    split <;> first | rfl | omega | (simp only [mI]; rw [wr_n (by omega)])
theorem w_items {G : ex_G} {M : ex_M} : (ce G M)[78]? = some (ce_ia G 600 (M.1 16)) := rfl
theorem s_items {G : ex_G} {M : ex_M} {a : Nat → Int32} : (ce G M).set 78 (ce_ia G 600 a) = ce G (mI M 16 a) := by
  refine ce_sethi (k := 20) (by omega) (by omega) ?_ ?_
  · show _ = ce_ia G 600 (wr M.1 16 a 16)
    rw [wr_s]
  · intro j hj hne
    unfold ce_hi
    split <;> first | rfl | omega | (simp only [mI]; rw [wr_n (by omega)])
theorem w_widths {G : ex_G} {M : ex_M} : (ce G M)[79]? = some (ce_ia G 4 (M.1 17)) := rfl
theorem s_widths {G : ex_G} {M : ex_M} {a : Nat → Int32} : (ce G M).set 79 (ce_ia G 4 a) = ce G (mI M 17 a) := by
  refine ce_sethi (k := 21) (by omega) (by omega) ?_ ?_
  · show _ = ce_ia G 4 (wr M.1 17 a 17)
    rw [wr_s]
  · intro j hj hne
    unfold ce_hi
    split <;> first | rfl | omega | (simp only [mI]; rw [wr_n (by omega)])
theorem w_sizes {G : ex_G} {M : ex_M} : (ce G M)[80]? = some (ce_ia G 4 (M.1 18)) := rfl
theorem s_sizes {G : ex_G} {M : ex_M} {a : Nat → Int32} : (ce G M).set 80 (ce_ia G 4 a) = ce G (mI M 18 a) := by
  refine ce_sethi (k := 22) (by omega) (by omega) ?_ ?_
  · show _ = ce_ia G 4 (wr M.1 18 a 18)
    rw [wr_s]
  · intro j hj hne
    unfold ce_hi
    split <;> first | rfl | omega | (simp only [mI]; rw [wr_n (by omega)])
theorem w_numbers {G : ex_G} {M : ex_M} : (ce G M)[81]? = some (ce_la G 160 (M.2 4)) := rfl
theorem s_numbers {G : ex_G} {M : ex_M} {a : Nat → Int64} : (ce G M).set 81 (ce_la G 160 a) = ce G (mL M 4 a) := by
  refine ce_sethiL (k := 23) (by omega) ?_ ?_
  · show _ = ce_la G 160 (wr M.2 4 a 4)
    rw [wr_s]
  · intro j hj hne
    unfold ce_hi
    split <;> first | rfl | omega | (simp only [mL]; rw [wr_n (by omega)])
theorem w_moved {G : ex_G} {M : ex_M} : (ce G M)[82]? = some (ce_la G 40 (M.2 5)) := rfl
theorem s_moved {G : ex_G} {M : ex_M} {a : Nat → Int64} : (ce G M).set 82 (ce_la G 40 a) = ce G (mL M 5 a) := by
  refine ce_sethiL (k := 24) (by omega) ?_ ?_
  · show _ = ce_la G 40 (wr M.2 5 a 5)
    rw [wr_s]
  · intro j hj hne
    unfold ce_hi
    split <;> first | rfl | omega | (simp only [mL]; rw [wr_n (by omega)])
theorem s_N {G : ex_G} {M : ex_M} {s : Nat} (hs : s < 4) {a : Nat → Int64} : (ce G M).set (aN s) (ce_la G 40 a) = ce G (mL M s a) := by
  rw [show aN s = 58 + (2 * s + 5) by unfold aN; omega]
  refine ce_sethiL (k := 2 * s + 5) (by omega) ?_ ?_
  · rcases (by omega : s = 0 ∨ s = 1 ∨ s = 2 ∨ s = 3) with h | h | h | h <;> subst h <;> (unfold ce_hi; simp only [mL]; rw [wr_s])
  · intro j hj hne
    unfold ce_hi
    split <;> first | rfl | (simp only [mL]; rw [wr_n (by omega)])
theorem s_S {G : ex_G} {M : ex_M} {s f : Nat} {v : Int32} {x : va_E} (hs : s < 4) (hf : f < 2) (hx : x = ce_sheet G (upd (M.1 6) (2 * s + f) v) s) : (ce G M).set (aS s) x = ce G (mJ M 6 (2 * s + f) v) := by
  rw [show aS s = 58 + (2 * s + 4) by unfold aS; omega]
  have key : ∀ t, t ≠ s → ce_sheet G (upd (M.1 6) (2 * s + f) v) t = ce_sheet G (M.1 6) t := fun t ht => by
    unfold ce_sheet upd
    rw [if_neg (by omega), if_neg (by omega)]
  refine ce_sethi (k := 2 * s + 4) (by omega) (by omega) ?_ ?_
  · rw [hx]
    rcases (by omega : s = 0 ∨ s = 1 ∨ s = 2 ∨ s = 3) with h | h | h | h <;> subst h <;> (unfold ce_hi; simp only [mI]; rw [wr_s])
  · intro j hj hne
    unfold ce_hi
    split <;> first | rfl | (simp only [mI]; rw [wr_n (by omega)]; done) | (simp only [mI]; rw [wr_s]; exact key _ (by omega))
theorem s_mod {G : ex_G} {M : ex_M} {k : Nat} {v : Int32} {x : va_E} (hx : x = ce_mod G (upd (M.1 14) k v)) : (ce G M).set 71 x = ce G (mJ M 14 k v) := by
  refine ce_sethi (k := 13) (by omega) (by omega) ?_ ?_
  · rw [hx]
    show _ = ce_mod G (wr M.1 14 (upd (M.1 14) k v) 14)
    rw [wr_s]
  · intro j hj hne
    unfold ce_hi
    split <;> first | rfl | omega | (simp only [mI]; rw [wr_n (by omega)])
/-- the class's own numbers (row 3): three cells read it -/
theorem s_3 {G : ex_G} {M : ex_M} {k c : Nat} {v : Int32} {x : va_E} (h : (c = 0 ∧ k = 0 ∧ x = ce_day G (upd (M.1 3) k v)) ∨ (c = 58 ∧ (k = 1 ∨ k = 2) ∧ x = ce_best (upd (M.1 3) k v)) ∨ (c = 59 ∧ 3 ≤ k ∧ x = ce_text G (upd (M.1 3) k v))) : (ce G M).set c x = ce G (mJ M 3 k v) := by
  have kd : k ≠ 0 → ce_day G (upd (M.1 3) k v) = ce_day G (M.1 3) := fun h => by unfold ce_day upd; rw [if_neg (by omega)]
  have kb : k ≠ 1 → k ≠ 2 → ce_best (upd (M.1 3) k v) = ce_best (M.1 3) := fun h1 h2 => by unfold ce_best upd; rw [if_neg (by omega), if_neg (by omega)]
  have kt : k < 3 → ce_text G (upd (M.1 3) k v) = ce_text G (M.1 3) := fun h => by unfold ce_text upd; rw [if_neg (by omega), if_neg (by omega), if_neg (by omega), if_neg (by omega), if_neg (by omega), if_neg (by omega)]
  have hi : ∀ j, 2 ≤ j → ce_hi G (mJ M 3 k v) j = ce_hi G M j := fun j hj => by
    unfold ce_hi
    split <;> first | rfl | omega | (simp only [mI, mJ]; rw [wr_n (by omega)])
  have h0 : ce_at G (mJ M 3 k v) 0 = ce_day G (upd (M.1 3) k v) := by show ce_day G (wr M.1 3 (upd (M.1 3) k v) 3) = _; rw [wr_s]
  have h58 : ce_at G (mJ M 3 k v) 58 = ce_best (upd (M.1 3) k v) := by show ce_best (wr M.1 3 (upd (M.1 3) k v) 3) = _; rw [wr_s]
  have h59 : ce_at G (mJ M 3 k v) 59 = ce_text G (upd (M.1 3) k v) := by show ce_text G (wr M.1 3 (upd (M.1 3) k v) 3) = _; rw [wr_s]
  have hmid : ∀ j, 1 ≤ j → j < 58 → ce_at G (mJ M 3 k v) j = ce_at G M j := fun j h1 h2 => by
    have hz : ¬ j = 0 := by omega
    unfold ce_at
    rw [if_neg hz, if_neg hz, if_pos h2, if_pos h2]
    show ce_rv G _ (wr M.1 3 (upd (M.1 3) k v) ((j - 1) / 19)) _ = _
    rw [wr_n (by omega)]
  have hup : ∀ j, 60 ≤ j → ce_at G (mJ M 3 k v) j = ce_at G M j := fun j h1 => by
    have hz : ¬ j = 0 := by omega
    have hz2 : ¬ j < 58 := by omega
    unfold ce_at
    rw [if_neg hz, if_neg hz, if_neg hz2, if_neg hz2]
    exact hi _ (by omega)
  refine ce_set ?_ ?_
  · rcases h with ⟨h1, h2, h3⟩ | ⟨h1, h2, h3⟩ | ⟨h1, h2, h3⟩
    · rw [h1, h3, h0]
    · rw [h1, h3, h58]
    · rw [h1, h3, h59]
  · intro j hj hne
    by_cases j0 : j = 0
    · subst j0
      rw [h0, kd (by omega)]; rfl
    · by_cases j58 : j = 58
      · subst j58
        rw [h58, kb (by omega) (by omega)]; rfl
      · by_cases j59 : j = 59
        · subst j59
          rw [h59, kt (by omega)]; rfl
        · by_cases j1 : j < 58
          · exact hmid j (by omega) j1
          · exact hup j (by omega)
theorem w_day {G : ex_G} {M : ex_M} : (ce G M)[0]? = some (ce_day G (M.1 3)) := rfl
theorem w_best {G : ex_G} {M : ex_M} : (ce G M)[58]? = some (ce_best (M.1 3)) := rfl
theorem w_text {G : ex_G} {M : ex_M} : (ce G M)[59]? = some (ce_text G (M.1 3)) := rfl
theorem w_sheets {G : ex_G} {M : ex_M} : (ce G M)[61]? = some (ce_sheets G) := rfl
theorem w_mod {G : ex_G} {M : ex_M} : (ce G M)[71]? = some (ce_mod G (M.1 14)) := rfl
theorem w_kinds {G : ex_G} {M : ex_M} : (ce G M)[77]? = some (ce_kinds G) := rfl
