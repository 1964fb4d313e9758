/-! PURE WORDS: what one, an event, a river do, on a row of numbers -/
theorem mI_mI (M : ex_M) (r : Nat) (a b : Nat → Int32) : mI (mI M r a) r b = mI M r b := by simp only [mI, wr_wr]
theorem mI_s (M : ex_M) (r : Nat) (a : Nat → Int32) : (mI M r a).1 r = a := wr_s _ _ _
theorem mI_n {M : ex_M} {r q : Nat} {a : Nat → Int32} (h : q ≠ r) : (mI M r a).1 q = M.1 q := wr_n h
theorem mI_id (M : ex_M) (r : Nat) : mI M r (M.1 r) = M := by simp only [mI, wr_id]
def hb (k e : Int32) : Bool := !decide ((k >>> (e &&& 31)) &&& 1 = 0)
def gainC (kind w : Int32) (b : Bool) : Int32 :=
  if kind = 1 then (if b then (if w ≤ 0 then 0 else 2 * w) else w + w / 2)
  else if kind = 2 then (if b then (if w ≤ 0 then 0 else 2 * w) - 1 else w / 2)
  else if kind = 5 then (if b then (if w ≤ 0 then 0 else 2 * w) - 1 + 10 else w / 2 + 3)
  else (if b then (if w ≤ 0 then 0 else 2 * w) else w)
theorem sw_ne {x : Int32} {lo hi : Int} (h : x.toInt < lo ∨ hi < x.toInt) (y : Int32) (h1 : lo ≤ y.toInt) (h2 : y.toInt ≤ hi) : x ≠ y := by
  intro e
  rw [e] at h
  omega
/-- the purse between its bounds -/
def cut (x : Int32) : Int32 := if 0 < (if x < 9999 then x else 9999) then (if x < 9999 then x else 9999) else 0
def cutM (x : Int32) : Int32 := if (0 : Int32) < (if x < 9999 then x else 9999) then (if x < 9999 then x else 9999) else 0
def oBeg (a : Nat → Int32) (i : Nat) (k b : Int32) : Nat → Int32 := upd (upd (upd (upd (upd (upd (upd a (28 + 7 * i + 0) k) (28 + 7 * i + 1) b) (28 + 7 * i + 2) 50) (28 + 7 * i + 3) (-1)) (28 + 7 * i + 4) (-1)) (28 + 7 * i + 5) 0) (28 + 7 * i + 6) 0
def oCpy (a : Nat → Int32) (i : Nat) (b : Nat → Int32) (j : Nat) : Nat → Int32 := upd (upd (upd (upd (upd (upd (upd a (28 + 7 * i + 0) (b (28 + 7 * j + 0))) (28 + 7 * i + 1) (b (28 + 7 * j + 1))) (28 + 7 * i + 2) (b (28 + 7 * j + 2))) (28 + 7 * i + 3) (b (28 + 7 * j + 3))) (28 + 7 * i + 4) (b (28 + 7 * j + 4))) (28 + 7 * i + 5) (b (28 + 7 * j + 5))) (28 + 7 * i + 6) (b (28 + 7 * j + 6))
def eBeg (a : Nat → Int32) (i : Nat) (h w : Int32) : Nat → Int32 := upd (upd (upd a (4 + 3 * i + 0) h) (4 + 3 * i + 1) w) (4 + 3 * i + 2) 0
def eCpy (a : Nat → Int32) (i : Nat) (b : Nat → Int32) (j : Nat) : Nat → Int32 := upd (upd (upd a (4 + 3 * i + 0) (b (4 + 3 * j + 0))) (4 + 3 * i + 1) (b (4 + 3 * j + 1))) (4 + 3 * i + 2) (b (4 + 3 * j + 2))
def oOver (a : Nat → Int32) (i : Nat) (t : Int32) : Nat → Int32 := upd (upd (upd a (28 + 7 * i + 2) (a (28 + 7 * i + 2) - t)) (28 + 7 * i + 1) (if a (28 + 7 * i + 1) = 0 then 1 else 0)) (28 + 7 * i + 5) (a (28 + 7 * i + 5) + 1)
def oHear (a : Nat → Int32) (i : Nat) (h : Int32) : Nat → Int32 := upd a (28 + 7 * i + 6) (a (28 + 7 * i + 6) ||| h)
def oLive (a : Nat → Int32) (i : Nat) (e w : Int32) : Nat → Int32 := oHear (upd a (28 + 7 * i + 2) (cut (a (28 + 7 * i + 2) + gainC (a (28 + 7 * i + 0)) w (hb (a (28 + 7 * i + 6)) e)))) i (1 <<< (e &&& 31))
