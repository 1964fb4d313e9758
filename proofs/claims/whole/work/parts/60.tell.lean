/-! BOTH SIDES' HOURS, on rows of numbers. First: what the tellers tell, one by one and at once -/
def kn (a g : Nat → Int32) (n : Nat) : Nat → Int32 := fun j => if 28 ≤ j ∧ j < 28 + 7 * n ∧ (j - 28) % 7 = 6 then g ((j - 28) / 7) else a j
theorem kn_6 {a g : Nat → Int32} {n i : Nat} (h : i < n) : kn a g n (28 + 7 * i + 6) = g i := by
  unfold kn
  rw [if_pos (by omega), show (28 + 7 * i + 6 - 28) / 7 = i by omega]
theorem kn_o {a g : Nat → Int32} {n i f : Nat} (hf : f < 6) : kn a g n (28 + 7 * i + f) = a (28 + 7 * i + f) := by
  unfold kn
  rw [if_neg (by omega)]
theorem kn_id (a : Nat → Int32) (n : Nat) : kn a (fun i => a (28 + 7 * i + 6)) n = a := by
  funext j
  unfold kn
  by_cases h : 28 ≤ j ∧ j < 28 + 7 * n ∧ (j - 28) % 7 = 6
  · rw [if_pos h]
    show a (28 + 7 * ((j - 28) / 7) + 6) = a j
    rw [show 28 + 7 * ((j - 28) / 7) + 6 = j by omega]
  · rw [if_neg h]
theorem kn_ext {a g g' : Nat → Int32} {n : Nat} (h : ∀ i, i < n → g i = g' i) : kn a g n = kn a g' n := by
  funext j
  unfold kn
  by_cases hj : 28 ≤ j ∧ j < 28 + 7 * n ∧ (j - 28) % 7 = 6
  · rw [if_pos hj, if_pos hj, h _ (by omega)]
  · rw [if_neg hj, if_neg hj]
theorem kn_upd {a g : Nat → Int32} {n i : Nat} (h : i < n) (v : Int32) : upd (kn a g n) (28 + 7 * i + 6) v = kn a (fun o => if o = i then v else g o) n := by
  funext j
  unfold upd kn
  by_cases hj : j = 28 + 7 * i + 6
  · rw [if_pos hj, if_pos (by omega)]
    show v = if (j - 28) / 7 = i then v else g ((j - 28) / 7)
    rw [if_pos (by omega)]
  · rw [if_neg hj]
    by_cases hc : 28 ≤ j ∧ j < 28 + 7 * n ∧ (j - 28) % 7 = 6
    · rw [if_pos hc, if_pos hc]
      show g ((j - 28) / 7) = if (j - 28) / 7 = i then v else g ((j - 28) / 7)
      rw [if_neg (by omega)]
    · rw [if_neg hc, if_neg hc]
theorem fHear_kn {a g : Nat → Int32} {n i : Nat} {k h : Int32} (hi : i < n) : fHear k h i (kn a g n) = kn a (fun o => if o = i ∧ a (28 + 7 * o + 1) = k then g o ||| h else g o) n := by
  unfold fHear oHear
  rw [kn_o (by decide), kn_6 hi, kn_upd hi]
  by_cases hk : a (28 + 7 * i + 1) = k
  · rw [if_pos hk]
    refine kn_ext fun o _ => ?_
    by_cases ho : o = i
    · subst ho; rw [if_pos rfl, if_pos ⟨rfl, hk⟩]
    · rw [if_neg ho, if_neg (fun z => ho z.1)]
  · rw [if_neg hk]
    refine kn_ext fun o _ => ?_
    rw [if_neg (fun z => hk (by rw [← z.1]; exact z.2))]
theorem rpHear {a : Nat → Int32} {n : Nat} {k h : Int32} : ∀ m i g, i + m ≤ n → rp (fHear k h) m i (kn a g n) = kn a (fun o => if i ≤ o ∧ o < i + m ∧ a (28 + 7 * o + 1) = k then g o ||| h else g o) n
  | 0, i, g, _ => by
    rw [rp]
    exact kn_ext fun o _ => by rw [if_neg (by omega)]
  | m + 1, i, g, hm => by
    rw [rp, fHear_kn (by omega), rpHear m (i + 1) _ (by omega)]
    refine kn_ext fun o _ => ?_
    by_cases hk : a (28 + 7 * o + 1) = k
    · simp only [hk, and_true]
      by_cases ho : o = i
      · rw [if_neg (by omega), if_pos ho, if_pos (by omega)]
      · by_cases h2 : i + 1 ≤ o ∧ o < i + 1 + m
        · rw [if_pos h2, if_neg ho, if_pos (by omega)]
        · rw [if_neg h2, if_neg ho, if_neg (by omega)]
    · simp only [hk, and_false, if_false]
/-- one teller tells one other -/
def fT (p i : Nat) (b : Nat → Int32) : Nat → Int32 := if i ≠ p ∧ b (28 + 7 * i + 1) = b (28 + 7 * p + 1) then oTel b p i else b
def fTP (n p : Nat) (b : Nat → Int32) : Nat → Int32 := if isTel b p = true then rp (fT p) n 0 b else b
theorem fT_kn {a g : Nat → Int32} {n p i : Nat} (hp : p < n) (hi : i < n) : fT p i (kn a g n) = kn a (fun o => if o = i ∧ (o ≠ p ∧ a (28 + 7 * o + 1) = a (28 + 7 * p + 1)) then g o ||| g p else g o) n := by
  unfold fT oTel
  rw [kn_o (by decide), kn_o (by decide), kn_6 hi, kn_6 hp, kn_upd hi]
  by_cases hk : i ≠ p ∧ a (28 + 7 * i + 1) = a (28 + 7 * p + 1)
  · rw [if_pos hk]
    refine kn_ext fun o _ => ?_
    by_cases ho : o = i
    · subst ho; rw [if_pos rfl, if_pos ⟨rfl, hk⟩]
    · rw [if_neg ho, if_neg (fun z => ho z.1)]
  · rw [if_neg hk]
    refine kn_ext fun o _ => ?_
    rw [if_neg (fun z => hk (by rw [← z.1]; exact z.2))]
theorem rpT {a : Nat → Int32} {n p : Nat} (hp : p < n) : ∀ m i g, i + m ≤ n → rp (fT p) m i (kn a g n) = kn a (fun o => if i ≤ o ∧ o < i + m ∧ (o ≠ p ∧ a (28 + 7 * o + 1) = a (28 + 7 * p + 1)) then g o ||| g p else g o) n
  | 0, i, g, _ => by
    rw [rp]
    exact kn_ext fun o _ => by rw [if_neg (fun z => by omega)]
  | m + 1, i, g, hm => by
    rw [rp, fT_kn hp (by omega), rpT hp m (i + 1) _ (by omega)]
    refine kn_ext fun o _ => ?_
    rw [if_neg (show ¬ (p = i ∧ (p ≠ p ∧ a (28 + 7 * p + 1) = a (28 + 7 * p + 1))) from fun z => z.2.1 rfl)]
    by_cases hk : o ≠ p ∧ a (28 + 7 * o + 1) = a (28 + 7 * p + 1)
    · simp only [hk, ne_eq, not_false_eq_true, and_true]
      by_cases ho : o = i
      · rw [if_neg (by omega), if_pos ho, if_pos (by omega)]
      · by_cases h2 : i + 1 ≤ o ∧ o < i + 1 + m
        · rw [if_pos h2, if_neg ho, if_pos (by omega)]
        · rw [if_neg h2, if_neg ho, if_neg (by omega)]
    · rw [if_neg (fun z => hk z.2.2), if_neg (fun z => hk z.2), if_neg (fun z => hk z.2.2)]
theorem fHeard_snoc (b : Nat → Int32) (k : Int32) : ∀ m i h, fHeard b k (m + 1) i h = if b (28 + 7 * (i + m) + 1) = k ∧ isTel b (i + m) = true then fHeard b k m i h ||| b (28 + 7 * (i + m) + 6) else fHeard b k m i h
  | 0, i, h => rfl
  | m + 1, i, h => by
    rw [fHeard, fHeard_snoc b k m (i + 1), show i + 1 + m = i + (m + 1) by omega]
    rfl
theorem isTel_kn {a g : Nat → Int32} {n i : Nat} : isTel (kn a g n) i = isTel a i := by
  unfold isTel
  rw [kn_o (by decide)]
theorem or3 (x y z : Int32) : x ||| y ||| (z ||| y) = x ||| (y ||| z) := by
  rw [Int32.or_assoc, ← Int32.or_assoc y z y, Int32.or_comm y z, Int32.or_assoc z y y, Int32.or_self]
theorem or2 (x y : Int32) : x ||| y = x ||| (y ||| x) := by
  rw [Int32.or_comm y x, ← Int32.or_assoc, Int32.or_self]
theorem rpTP {a : Nat → Int32} {n : Nat} : ∀ m i, i + m ≤ n → rp (fTP n) m i (kn a (fun o => a (28 + 7 * o + 6) ||| fHeard a (a (28 + 7 * o + 1)) i 0 0) n) = kn a (fun o => a (28 + 7 * o + 6) ||| fHeard a (a (28 + 7 * o + 1)) (i + m) 0 0) n
  | 0, i, _ => rfl
  | m + 1, i, hm => by
    rw [rp, show i + (m + 1) = i + 1 + m by omega, ← rpTP m (i + 1) (by omega)]
    congr 1
    unfold fTP
    rw [isTel_kn]
    by_cases ht : isTel a i = true
    · rw [if_pos ht, rpT (by omega) n 0 _ (by omega)]
      refine kn_ext fun o ho => ?_
      rw [fHeard_snoc, show 0 + i = i by omega]
      by_cases hb : a (28 + 7 * i + 1) = a (28 + 7 * o + 1)
      · rw [if_pos (show a (28 + 7 * i + 1) = a (28 + 7 * o + 1) ∧ isTel a i = true from ⟨hb, ht⟩)]
        by_cases hoi : o = i
        · subst hoi
          rw [if_neg (show ¬ (0 ≤ o ∧ o < 0 + n ∧ (o ≠ o ∧ a (28 + 7 * o + 1) = a (28 + 7 * o + 1))) from fun z => z.2.2.1 rfl)]
          exact or2 _ _
        · rw [if_pos (show 0 ≤ o ∧ o < 0 + n ∧ (o ≠ i ∧ a (28 + 7 * o + 1) = a (28 + 7 * i + 1)) from ⟨by omega, by omega, hoi, hb.symm⟩), hb]
          exact or3 _ _ _
      · rw [if_neg (show ¬ (a (28 + 7 * i + 1) = a (28 + 7 * o + 1) ∧ isTel a i = true) from fun z => hb z.1), if_neg (show ¬ (0 ≤ o ∧ o < 0 + n ∧ (o ≠ i ∧ a (28 + 7 * o + 1) = a (28 + 7 * i + 1))) from fun z => hb z.2.2.2.symm)]
    · rw [if_neg ht]
      refine kn_ext fun o ho => ?_
      rw [fHeard_snoc, show 0 + i = i by omega, if_neg (fun z => ht z.2)]
theorem fHeard_ext {b c : Nat → Int32} {k : Int32} : ∀ m i h, (∀ j, j < i + m → b (28 + 7 * j + 1) = c (28 + 7 * j + 1) ∧ isTel b j = isTel c j ∧ (b (28 + 7 * j + 1) = k → b (28 + 7 * j + 6) = c (28 + 7 * j + 6))) → fHeard b k m i h = fHeard c k m i h
  | 0, _, _, _ => rfl
  | m + 1, i, h, q => by
    rw [fHeard, fHeard]
    obtain ⟨q1, q2, q3⟩ := q i (by omega)
    rw [fHeard_ext m (i + 1) _ (fun j hj => q j (by omega))]
    congr 1
    rw [q2]
    by_cases hk : b (28 + 7 * i + 1) = k
    · rw [q3 hk, ← q1]
    · rw [if_neg (fun z => hk z.1), if_neg (fun z => hk (q1.trans z.1))]
theorem spread_kn {a g : Nat → Int32} {n : Nat} {k : Int32} : spread k n (kn a g n) = kn a (fun o => if a (28 + 7 * o + 1) = k then g o ||| fHeard (kn a g n) k n 0 0 else g o) n := by
  unfold spread
  by_cases h0 : fHeard (kn a g n) k n 0 0 = 0
  · rw [if_pos h0, h0]
    refine kn_ext fun o _ => ?_
    rw [or_0]
    by_cases hk : a (28 + 7 * o + 1) = k
    · rw [if_pos hk]
    · rw [if_neg hk]
  · rw [if_neg h0, rpHear n 0 g (by omega)]
    refine kn_ext fun o ho => ?_
    by_cases hk : a (28 + 7 * o + 1) = k
    · rw [if_pos hk, if_pos ⟨by omega, by omega, hk⟩]
    · rw [if_neg hk, if_neg (fun z => hk z.2.2)]
theorem tel_spread {a : Nat → Int32} {n : Nat} (hb : ∀ i, i < n → a (28 + 7 * i + 1) = 0 ∨ a (28 + 7 * i + 1) = 1) : rp (fTP n) n 0 a = spread 1 n (spread 0 n a) := by
  have e0 : kn a (fun o => a (28 + 7 * o + 6) ||| fHeard a (a (28 + 7 * o + 1)) 0 0 0) n = a := by
    rw [← kn_id a n]
    rw [kn_id a n]
    exact (kn_ext fun o _ => by rw [fHeard, or_0]).trans (kn_id a n)
  have e1 := rpTP (a := a) (n := n) n 0 (by omega)
  rw [e0, Nat.zero_add] at e1
  rw [e1]
  have e2 : spread 0 n a = kn a (fun o => if a (28 + 7 * o + 1) = 0 then a (28 + 7 * o + 6) ||| fHeard a 0 n 0 0 else a (28 + 7 * o + 6)) n := by
    have := spread_kn (a := a) (g := fun o => a (28 + 7 * o + 6)) (n := n) (k := 0)
    rw [kn_id] at this
    exact this
  rw [e2, spread_kn]
  refine kn_ext fun o ho => ?_
  have e3 : fHeard (kn a (fun o => if a (28 + 7 * o + 1) = 0 then a (28 + 7 * o + 6) ||| fHeard a 0 n 0 0 else a (28 + 7 * o + 6)) n) 1 n 0 0 = fHeard a 1 n 0 0 := by
    refine fHeard_ext n 0 0 (fun j hj => ⟨kn_o (by decide), isTel_kn, fun hk => ?_⟩)
    rw [kn_o (by decide)] at hk
    rw [kn_6 (by omega), if_neg (by rw [hk]; decide)]
  rw [e3]
  rcases hb o ho with h | h
  · rw [h, if_neg (by decide), if_pos rfl]
  · rw [h, if_pos rfl, if_neg (by decide)]
