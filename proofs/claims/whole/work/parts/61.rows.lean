/-! rows in bounds, rows that say the same -/
def WB (a : Nat → Int32) (np ne : Nat) : Prop := WF a np ne ∧ (0 ≤ a 1 ∧ a 1 ≤ 99) ∧ (∀ p, p < np → (a (28 + 7 * p + 1) = 0 ∨ a (28 + 7 * p + 1) = 1) ∧ 0 ≤ a (28 + 7 * p + 2) ∧ a (28 + 7 * p + 2) ≤ 9999) ∧ (∀ e, e < ne → -99 ≤ a (4 + 3 * e + 1) ∧ a (4 + 3 * e + 1) ≤ 99)
theorem WB_upd {a : Nat → Int32} {np ne k : Nat} {v : Int32} (h : WB a np ne) (h2 : k ≠ 2) (h3 : k ≠ 3) (h1 : k = 1 → 0 ≤ v ∧ v ≤ 99) (hm : ∀ e, e < ne → k = 4 + 3 * e + 2 → v = 0 ∨ v = 1) (hw : ∀ e, e < ne → k = 4 + 3 * e + 1 → -99 ≤ v ∧ v ≤ 99)
    (hk : ∀ p, p < np → k = 28 + 7 * p + 0 → ∃ j, j < 6 ∧ v = nI j) (hb : ∀ p, p < np → k = 28 + 7 * p + 1 → v = 0 ∨ v = 1) (hp : ∀ p, p < np → k = 28 + 7 * p + 2 → 0 ≤ v ∧ v ≤ 9999) (hn : ∀ p, p < np → k = 28 + 7 * p + 6 → ∃ j, j < 256 ∧ v = nI j) : WB (upd a k v) np ne := by
  obtain ⟨⟨e1, e2, e3, e4, e5, e6, e7⟩, t1, p1, w1⟩ := h
  refine ⟨⟨by rw [ud_n (Ne.symm h3)]; exact e1, e2, by rw [ud_n (Ne.symm h2)]; exact e3, e4, fun e q => ?_, fun p q => ?_, fun p q => ?_⟩, ?_, fun p q => ?_, fun e q => ?_⟩
  · by_cases hj : k = 4 + 3 * e + 2
    · rw [← hj, ud_s]; exact hm e q hj
    · rw [ud_n (Ne.symm hj)]; exact e5 e q
  · by_cases hj : k = 28 + 7 * p + 0
    · rw [← hj, ud_s]; exact hk p q hj
    · rw [ud_n (Ne.symm hj)]; exact e6 p q
  · by_cases hj : k = 28 + 7 * p + 6
    · rw [← hj, ud_s]; exact hn p q hj
    · rw [ud_n (Ne.symm hj)]; exact e7 p q
  · by_cases hj : k = 1
    · rw [← hj, ud_s]; exact h1 hj
    · rw [ud_n (Ne.symm hj)]; exact t1
  · refine ⟨?_, ?_⟩
    · by_cases hj : k = 28 + 7 * p + 1
      · rw [← hj, ud_s]; exact hb p q hj
      · rw [ud_n (Ne.symm hj)]; exact (p1 p q).1
    · by_cases hj : k = 28 + 7 * p + 2
      · rw [← hj, ud_s]; exact hp p q hj
      · rw [ud_n (Ne.symm hj)]; exact (p1 p q).2
  · by_cases hj : k = 4 + 3 * e + 1
    · rw [← hj, ud_s]; exact hw e q hj
    · rw [ud_n (Ne.symm hj)]; exact w1 e q
section WBs
variable {a : Nat → Int32} {np ne : Nat} {v : Int32}
theorem WB_bk {i : Nat} (h : WB a np ne) (hv : v = 0 ∨ v = 1) : WB (upd a (28 + 7 * i + 1) v) np ne := by
  have := h.1.2.2.2.1
  exact WB_upd h (by omega) (by omega) (fun z => by omega) (fun e _ z => by omega) (fun e _ z => by omega) (fun p _ z => by omega) (fun _ _ _ => hv) (fun p _ z => by omega) (fun p _ z => by omega)
theorem WB_pu {i : Nat} (h : WB a np ne) (hv : 0 ≤ v ∧ v ≤ 9999) : WB (upd a (28 + 7 * i + 2) v) np ne := by
  have := h.1.2.2.2.1
  exact WB_upd h (by omega) (by omega) (fun z => by omega) (fun e _ z => by omega) (fun e _ z => by omega) (fun p _ z => by omega) (fun p _ z => by omega) (fun _ _ _ => hv) (fun p _ z => by omega)
theorem WB_kd {i : Nat} (h : WB a np ne) (hv : ∃ j, j < 6 ∧ v = nI j) : WB (upd a (28 + 7 * i + 0) v) np ne := by
  have := h.1.2.2.2.1
  exact WB_upd h (by omega) (by omega) (fun z => by omega) (fun e _ z => by omega) (fun e _ z => by omega) (fun _ _ _ => hv) (fun p _ z => by omega) (fun p _ z => by omega) (fun p _ z => by omega)
theorem WB_kn {i : Nat} (h : WB a np ne) (hv : ∃ j, j < 256 ∧ v = nI j) : WB (upd a (28 + 7 * i + 6) v) np ne := by
  have := h.1.2.2.2.1
  exact WB_upd h (by omega) (by omega) (fun z => by omega) (fun e _ z => by omega) (fun e _ z => by omega) (fun p _ z => by omega) (fun p _ z => by omega) (fun p _ z => by omega) (fun _ _ _ => hv)
theorem WB_fr {i f : Nat} (h : WB a np ne) (hf : f = 3 ∨ f = 4 ∨ f = 5) : WB (upd a (28 + 7 * i + f) v) np ne := by
  have := h.1.2.2.2.1
  exact WB_upd h (by omega) (by omega) (fun z => by omega) (fun e _ z => by omega) (fun e _ z => by omega) (fun p _ z => by omega) (fun p _ z => by omega) (fun p _ z => by omega) (fun p _ z => by omega)
theorem WB_me {e : Nat} (he : e < 8) (h : WB a np ne) (hv : v = 0 ∨ v = 1) : WB (upd a (4 + 3 * e + 2) v) np ne :=
  WB_upd h (by omega) (by omega) (fun z => by omega) (fun _ _ _ => hv) (fun e _ z => by omega) (fun p _ z => by omega) (fun p _ z => by omega) (fun p _ z => by omega) (fun p _ z => by omega)
theorem WB_wo {e : Nat} (he : e < 8) (h : WB a np ne) (hv : -99 ≤ v ∧ v ≤ 99) : WB (upd a (4 + 3 * e + 1) v) np ne :=
  WB_upd h (by omega) (by omega) (fun z => by omega) (fun e _ z => by omega) (fun _ _ _ => hv) (fun p _ z => by omega) (fun p _ z => by omega) (fun p _ z => by omega) (fun p _ z => by omega)
theorem WB_0 (h : WB a np ne) : WB (upd a 0 v) np ne :=
  WB_upd h (by omega) (by omega) (fun z => by omega) (fun e _ z => by omega) (fun e _ z => by omega) (fun p _ z => by omega) (fun p _ z => by omega) (fun p _ z => by omega) (fun p _ z => by omega)
theorem WB_1 (h : WB a np ne) (hv : 0 ≤ v ∧ v ≤ 99) : WB (upd a 1 v) np ne :=
  WB_upd h (by omega) (by omega) (fun _ => hv) (fun e _ z => by omega) (fun e _ z => by omega) (fun p _ z => by omega) (fun p _ z => by omega) (fun p _ z => by omega) (fun p _ z => by omega)
end WBs
/-- a row of the class and one of the reference that say the same of nc people (the class's i is the reference's s i) and ne events -/
def Qr (s : Nat → Nat) (nc ne : Nat) (a b : Nat → Int32) : Prop := (∀ j, j < 3 → a j = b j) ∧ (∀ j, 4 ≤ j → j < 4 + 3 * ne → a j = b j) ∧ ∀ i f, i < nc → f < 7 → a (28 + 7 * i + f) = b (28 + 7 * s i + f)
/-- s numbers those who are there -/
def SG (aw : Int32) (nc np : Nat) (s : Nat → Nat) : Prop := (∀ i, i < nc → s i < np ∧ ther aw (s i) = true) ∧ (∀ i j, i < nc → j < nc → s i = s j → i = j) ∧ (∀ g : Nat → (Nat → Int32) → (Nat → Int32), (∀ p b, p < np → ther aw p = false → g p b = b) → ∀ b, rp g np 0 b = rp (fun i => g (s i)) nc 0 b)
section Qrs
variable {s : Nat → Nat} {nc ne np : Nat} {a b : Nat → Int32} {v : Int32} {aw : Int32}
theorem Qr_p (hg : SG aw nc np s) (hne : ne ≤ 8) {i f : Nat} (hi : i < nc) (h : Qr s nc ne a b) (hf : f < 7) : Qr s nc ne (upd a (28 + 7 * i + f) v) (upd b (28 + 7 * s i + f) v) := by
  refine ⟨fun j hj => ?_, fun j h4 hj => ?_, fun i2 f2 hi2 hf2 => ?_⟩
  · rw [ud_n (by omega), ud_n (by omega)]; exact h.1 j hj
  · rw [ud_n (by omega), ud_n (by omega)]; exact h.2.1 j h4 hj
  · by_cases e : i2 = i
    · subst e
      by_cases e2 : f2 = f
      · subst e2; rw [ud_s, ud_s]
      · rw [ud_n (by omega), ud_n (by omega)]; exact h.2.2 _ _ hi2 hf2
    · have hs : s i2 ≠ s i := fun z => e (hg.2.1 _ _ hi2 hi z)
      rw [ud_n (by omega), ud_n (by omega)]; exact h.2.2 _ _ hi2 hf2
theorem Qr_e (hne : ne ≤ 8) {k : Nat} (hk : 4 ≤ k ∧ k < 28) (h : Qr s nc ne a b) : Qr s nc ne (upd a k v) (upd b k v) := by
  refine ⟨fun j hj => ?_, fun j h4 hj => ?_, fun i2 f2 hi2 hf2 => ?_⟩
  · rw [ud_n (by omega), ud_n (by omega)]; exact h.1 j hj
  · by_cases e : j = k
    · subst e; rw [ud_s, ud_s]
    · rw [ud_n e, ud_n e]; exact h.2.1 j h4 hj
  · rw [ud_n (by omega), ud_n (by omega)]; exact h.2.2 _ _ hi2 hf2
theorem Qr_0 {k : Nat} (hk : k < 3) (h : Qr s nc ne a b) : Qr s nc ne (upd a k v) (upd b k v) := by
  refine ⟨fun j hj => ?_, fun j h4 hj => ?_, fun i2 f2 hi2 hf2 => ?_⟩
  · by_cases e : j = k
    · subst e; rw [ud_s, ud_s]
    · rw [ud_n e, ud_n e]; exact h.1 j hj
  · rw [ud_n (by omega), ud_n (by omega)]; exact h.2.1 j h4 hj
  · rw [ud_n (by omega), ud_n (by omega)]; exact h.2.2 _ _ hi2 hf2
end Qrs
theorem rp_rel {f g : Nat → (Nat → Int32) → (Nat → Int32)} {P : (Nat → Int32) → (Nat → Int32) → Prop} {n : Nat} (h : ∀ i a b, i < n → P a b → P (f i a) (g i b)) : ∀ m i a b, i + m ≤ n → P a b → P (rp f m i a) (rp g m i b)
  | 0, _, _, _, _, hp => hp
  | m + 1, i, a, b, hm, hp => rp_rel h m (i + 1) _ _ (by omega) (h i a b (by omega) hp)
theorem ud_swap {f : Nat → Int32} {k1 k2 : Nat} {v1 v2 : Int32} (h : k1 ≠ k2) : upd (upd f k1 v1) k2 v2 = upd (upd f k2 v2) k1 v1 := by
  funext j
  unfold upd
  by_cases h1 : j = k1
  · have h2 : ¬ j = k2 := by omega
    simp only [if_pos h1, if_neg h2]
  · by_cases h2 : j = k2
    · simp only [if_neg h1, if_pos h2]
    · simp only [if_neg h1, if_neg h2]
theorem ud_id {f : Nat → Int32} {k : Nat} {v : Int32} (h : f k = v) : upd f k v = f := by
  funext j
  unfold upd
  by_cases hj : j = k
  · rw [if_pos hj, hj, h]
  · rw [if_neg hj]
/-! numbers between bounds -/
theorem rg_nat {x hi : Int32} {n : Nat} (hn : hi = nI n) (hn2 : n < 2 ^ 31) (h1 : 0 ≤ x) (h2 : x ≤ hi) : ∃ j, j ≤ n ∧ x = nI j := by
  obtain ⟨j, hj, rfl⟩ := nI_of (Int32.not_lt.mpr h1)
  rw [hn] at h2
  exact ⟨j, (nI_leI hj hn2).mp h2, rfl⟩
theorem nI_rg {n m : Nat} (h : n ≤ m) (hm : m < 2 ^ 31) : 0 ≤ nI n ∧ nI n ≤ nI m := ⟨nI_pos' (by omega), nI_le h hm⟩
theorem cut_nI {j : Nat} (h : j ≤ 9999) : cut (nI j) = nI j := by
  unfold cut
  rw [show (9999 : Int32) = nI 9999 from rfl]
  by_cases h9 : j = 9999
  · subst h9; decide
  · rw [if_pos (nI_lt (by omega) (by omega))]
    by_cases h0 : j = 0
    · subst h0; decide
    · rw [if_pos (by rw [show (0 : Int32) = nI 0 from rfl]; exact nI_lt (by omega) (by omega))]
theorem cut_rg (x : Int32) : 0 ≤ cut x ∧ cut x ≤ 9999 := by
  unfold cut
  by_cases h1 : x < 9999
  · rw [if_pos h1]
    by_cases h2 : 0 < x
    · rw [if_pos h2]
      rw [Int32.lt_iff_toInt_lt] at h1 h2
      rw [Int32.le_iff_toInt_le, Int32.le_iff_toInt_le]
      omega
    · rw [if_neg h2]; decide
  · rw [if_neg h1]; decide
theorem cut_pay {x t : Int32} (hx : 0 ≤ x ∧ x ≤ 9999) (ht : 0 ≤ t ∧ t ≤ 99) (h : ¬ x < t) : cut (x + -t) = x - t ∧ 0 ≤ x - t ∧ x - t ≤ 9999 := by
  obtain ⟨j, hj, rfl⟩ := rg_nat (n := 9999) rfl (by omega) hx.1 hx.2
  obtain ⟨k, hk, rfl⟩ := rg_nat (n := 99) rfl (by omega) ht.1 ht.2
  have hkj : k ≤ j := by
    rcases Nat.lt_or_ge j k with z | z
    · exact absurd (nI_lt z (by omega)) h
    · exact z
  rw [← Int32.sub_eq_add_neg, pk_sub hkj]
  exact ⟨cut_nI (by omega), nI_rg (n := j - k) (m := 9999) (by omega) (by omega)⟩
theorem rg_w {w : Int32} (h1 : -99 ≤ w) (h2 : w ≤ 99) : ∃ j, j < 199 ∧ w = nI j - 99 := by
  rw [Int32.le_iff_toInt_le] at h1 h2
  rw [show (-99 : Int32).toInt = -99 from rfl] at h1
  rw [show (99 : Int32).toInt = 99 from rfl] at h2
  refine ⟨(w.toInt + 99).toNat, by omega, ?_⟩
  apply Int32.toInt_inj.mp
  rw [show (99 : Int32) = nI 99 from rfl, pk_sub_toInt (by omega) (by omega)]
  omega
theorem gain_all : ∀ j, j < 199 → ∀ k, k < 6 → ∀ b : Bool, gainM (nI k) (nI j - 99) b = gainC (nI k) (nI j - 99) b := by decide +kernel
theorem gain_eq {k w : Int32} {b : Bool} (hk : ∃ j, j < 6 ∧ k = nI j) (h1 : -99 ≤ w) (h2 : w ≤ 99) : gainM k w b = gainC k w b := by
  obtain ⟨j, hj, rfl⟩ := rg_w h1 h2
  obtain ⟨i, hi, rfl⟩ := hk
  exact gain_all j hj i hi b
theorem tel_all : ∀ k, k < 6 → undF 6 (nI k) 3 = (decide (nI k = 3) || decide (nI k = 4)) := by decide +kernel
theorem bit1 (x : Int32) : x &&& 1 = 0 ∨ x &&& 1 = 1 := by
  have h2 : (x &&& 1).toBitVec.toNat = x.toBitVec.toNat % 2 := by
    show (x.toBitVec &&& 1#32).toNat = _
    rw [BitVec.toNat_and, show (1#32).toNat = 1 from rfl, Nat.and_one_is_mod]
  rcases Nat.mod_two_eq_zero_or_one x.toBitVec.toNat with z | z
  · left
    apply Int32.toBitVec_inj.mp
    apply BitVec.eq_of_toNat_eq
    rw [h2, z]; rfl
  · right
    apply Int32.toBitVec_inj.mp
    apply BitVec.eq_of_toNat_eq
    rw [h2, z]; rfl
theorem hs1_hb (k e : Int32) : hs1 k e = hb k e := by
  unfold hs1 hb
  rcases bit1 (k >>> (e &&& 31)) with h | h <;> rw [h] <;> decide
