/-- m rounds of f, from number i on -/
def rp (f : Nat → (Nat → Int32) → (Nat → Int32)) : Nat → Nat → (Nat → Int32) → (Nat → Int32)
  | 0, _, b => b
  | m + 1, i, b => rp f m (i + 1) (f i b)
def wants (b : Nat → Int32) (i : Nat) (c : Int32) : Bool := decide ((if b (28 + 7 * i + 1) = 0 then b (28 + 7 * i + 3) else b (28 + 7 * i + 4)) = c)
def pays (b : Nat → Int32) (i : Nat) : Bool := !decide (b (28 + 7 * i + 2) < b 1)
def fCross (c : Int32) (i : Nat) (b : Nat → Int32) : Nat → Int32 := if wants b i c && pays b i then oOver b i (b 1) else b
def isTel (b : Nat → Int32) (i : Nat) : Bool := decide (b (28 + 7 * i + 0) = 3) || decide (b (28 + 7 * i + 0) = 4)
/-- what the tellers of a bank know together -/
def fHeard (b : Nat → Int32) (k : Int32) : Nat → Nat → Int32 → Int32
  | 0, _, h => h
  | m + 1, i, h => fHeard b k m (i + 1) (if b (28 + 7 * i + 1) = k ∧ isTel b i = true then h ||| b (28 + 7 * i + 6) else h)
def fHear (k h : Int32) (i : Nat) (b : Nat → Int32) : Nat → Int32 := if b (28 + 7 * i + 1) = k then oHear b i h else b
def spread (k : Int32) (n : Nat) (b : Nat → Int32) : Nat → Int32 := if fHeard b k n 0 0 = 0 then b else rp (fHear k (fHeard b k n 0 0)) n 0 b
def cbm (b : Nat → Int32) (e : Nat) : Bool := !decide (0 ≤ b (4 + 3 * e + 1)) && !decide (b (4 + 3 * e + 0) + 24 < b 0)
def fMeetE (j e : Nat) (b : Nat → Int32) : Nat → Int32 := if hb (b (28 + 7 * j + 6)) (nI e) && cbm b e then upd b (4 + 3 * e + 2) 1 else b
def fMeet (ne : Nat) (i : Nat) (b : Nat → Int32) : Nat → Int32 := if b (28 + 7 * i + 0) = 4 ∧ b (28 + 7 * i + 1) = 1 then rp (fMeetE i) ne 0 b else b
def fBef (e : Nat) (k : Int32) (i : Nat) (b : Nat → Int32) : Nat → Int32 := if b (28 + 7 * i + 1) = k then oLive b i (nI e) (b (4 + 3 * e + 1)) else b
def fEv (np e : Nat) (b : Nat → Int32) : Nat → Int32 := if b (4 + 3 * e + 0) = b 0 then rp (fBef e 0) np 0 b else if b (4 + 3 * e + 0) + 24 = b 0 ∧ b (4 + 3 * e + 2) = 0 then rp (fBef e 1) np 0 b else b
/-- an hour, as the class's river has it -/
def hourC (np ne : Nat) (b : Nat → Int32) : Nat → Int32 :=
  let b1 := rp (fCross (b 0 - b 0 / 24 * 24)) np 0 b
  let b2 := spread 1 np (spread 0 np b1)
  let b3 := rp (fMeet ne) np 0 b2
  let b4 := rp (fEv np) ne 0 b3
  upd b4 0 (b4 0 + 1)
theorem ud_n {f : Nat → Int32} {k j : Nat} {x : Int32} (h : j ≠ k) : upd f k x j = f j := by unfold upd; rw [if_neg h]
theorem ud_s {f : Nat → Int32} {k : Nat} {x : Int32} : upd f k x k = x := by unfold upd; rw [if_pos rfl]
/-- what a step leaves: the places below 4 (and those that the caller names) -/
theorem rp_keep {f : Nat → (Nat → Int32) → (Nat → Int32)} {q : Nat} (h : ∀ i b, f i b q = b q) : ∀ m i b, rp f m i b q = b q
  | 0, _, _ => rfl
  | m + 1, i, b => by rw [rp, rp_keep h m (i + 1) (f i b), h]
theorem oOver_lo {a : Nat → Int32} {i q : Nat} {t : Int32} (h : q < 28) : oOver a i t q = a q := by unfold oOver; rw [ud_n (by omega), ud_n (by omega), ud_n (by omega)]
theorem oHear_lo {a : Nat → Int32} {i q : Nat} {t : Int32} (h : q < 28) : oHear a i t q = a q := by unfold oHear; rw [ud_n (by omega)]
theorem oLive_lo {a : Nat → Int32} {i q : Nat} {e w : Int32} (h : q < 28) : oLive a i e w q = a q := by unfold oLive; rw [oHear_lo h, ud_n (by omega)]
theorem oCpy_lo {a b : Nat → Int32} {i j q : Nat} (h : q < 28) : oCpy a i b j q = a q := by unfold oCpy; rw [ud_n (by omega), ud_n (by omega), ud_n (by omega), ud_n (by omega), ud_n (by omega), ud_n (by omega), ud_n (by omega)]
theorem eCpy_lo {a b : Nat → Int32} {i j q : Nat} (h : q < 4) : eCpy a i b j q = a q := by unfold eCpy; rw [ud_n (by omega), ud_n (by omega), ud_n (by omega)]
theorem oBeg_lo {a : Nat → Int32} {i q : Nat} {k b : Int32} (h : q < 28) : oBeg a i k b q = a q := by unfold oBeg; rw [ud_n (by omega), ud_n (by omega), ud_n (by omega), ud_n (by omega), ud_n (by omega), ud_n (by omega), ud_n (by omega)]
theorem eBeg_lo {a : Nat → Int32} {i q : Nat} {k b : Int32} (h : q < 4) : eBeg a i k b q = a q := by unfold eBeg; rw [ud_n (by omega), ud_n (by omega), ud_n (by omega)]
theorem fCross_lo {c : Int32} {i q : Nat} {b : Nat → Int32} (h : q < 28) : fCross c i b q = b q := by unfold fCross; split <;> first | exact oOver_lo h | rfl
theorem fHear_lo {k x : Int32} {i q : Nat} {b : Nat → Int32} (h : q < 28) : fHear k x i b q = b q := by unfold fHear; split <;> first | exact oHear_lo h | rfl
theorem spread_lo {k : Int32} {n q : Nat} {b : Nat → Int32} (h : q < 28) : spread k n b q = b q := by unfold spread; split; rfl; exact rp_keep (fun i b => fHear_lo h) _ _ _
theorem fBef_lo {k : Int32} {e i q : Nat} {b : Nat → Int32} (h : q < 28) : fBef e k i b q = b q := by unfold fBef; split <;> first | exact oLive_lo h | rfl
theorem fEv_lo {np e q : Nat} {b : Nat → Int32} (h : q < 28) : fEv np e b q = b q := by
  unfold fEv
  split
  · exact rp_keep (fun i b => fBef_lo h) _ _ _
  · split
    · exact rp_keep (fun i b => fBef_lo h) _ _ _
    · rfl
theorem fMeetE_4 {j e q : Nat} {b : Nat → Int32} (h : q < 4 ∨ 28 ≤ q) (he : e < 8) : fMeetE j e b q = b q := by unfold fMeetE; split; exact ud_n (by omega); rfl
