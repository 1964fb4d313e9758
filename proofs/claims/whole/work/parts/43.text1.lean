/-! the text: one way to read it, for both -/
def st4 (a : Nat → Int32) (x4 x5 x6 x7 : Int32) : Nat → Int32 := fun j => if j = 4 then x4 else if j = 5 then x5 else if j = 6 then x6 else if j = 7 then x7 else a j
theorem u4_4 (a : Nat → Int32) (x4 x5 x6 x7 y : Int32) : upd (st4 a x4 x5 x6 x7) 4 y = st4 a y x5 x6 x7 := by
  funext j; simp only [upd, st4]; by_cases h : j = 4 <;> simp [h]
theorem u4_5 (a : Nat → Int32) (x4 x5 x6 x7 y : Int32) : upd (st4 a x4 x5 x6 x7) 5 y = st4 a x4 y x6 x7 := by
  funext j; simp only [upd, st4]; by_cases h : j = 5 <;> simp [h]
theorem u4_6 (a : Nat → Int32) (x4 x5 x6 x7 y : Int32) : upd (st4 a x4 x5 x6 x7) 6 y = st4 a x4 x5 y x7 := by
  funext j; simp only [upd, st4]; by_cases h : j = 6 <;> simp [h]
theorem u4_7 (a : Nat → Int32) (x4 x5 x6 x7 y : Int32) : upd (st4 a x4 x5 x6 x7) 7 y = st4 a x4 x5 x6 y := by
  funext j; simp only [upd, st4]; by_cases h : j = 7 <;> simp [h]
theorem st4_id (a : Nat → Int32) : st4 a (a 4) (a 5) (a 6) (a 7) = a := by
  funext j; simp only [st4]
  by_cases h4 : j = 4
  · simp [h4]
  · by_cases h5 : j = 5
    · simp [h5]
    · by_cases h6 : j = 6
      · simp [h6]
      · by_cases h7 : j = 7
        · simp [h7]
        · simp [h4, h5, h6, h7]
def mT (M : ex_M) (x4 x5 x6 x7 : Int32) : ex_M := mI M 3 (st4 (M.1 3) x4 x5 x6 x7)
def mU (M : ex_M) (x4 x5 x6 x7 : Int32) : ex_M := mI M 14 (st4 (M.1 14) x4 x5 x6 x7)
section
variable (M : ex_M) (a b c d y : Int32)
theorem mT_id : mT M (M.1 3 4) (M.1 3 5) (M.1 3 6) (M.1 3 7) = M := by rw [mT, st4_id, mI_id]
theorem mT_3 : (mT M a b c d).1 3 3 = M.1 3 3 := rfl
theorem mT_4 : (mT M a b c d).1 3 4 = a := rfl
theorem mT_5 : (mT M a b c d).1 3 5 = b := rfl
theorem mT_6 : (mT M a b c d).1 3 6 = c := rfl
theorem mT_7 : (mT M a b c d).1 3 7 = d := rfl
theorem mT_b : (mT M a b c d).1 4 = M.1 4 := rfl
theorem mT_w4 : mJ (mT M a b c d) 3 4 y = mT M y b c d := by simp only [mT, mI, mJ, wr_s, wr_wr, u4_4]
theorem mT_w5 : mJ (mT M a b c d) 3 5 y = mT M a y c d := by simp only [mT, mI, mJ, wr_s, wr_wr, u4_5]
theorem mT_w6 : mJ (mT M a b c d) 3 6 y = mT M a b y d := by simp only [mT, mI, mJ, wr_s, wr_wr, u4_6]
theorem mT_w7 : mJ (mT M a b c d) 3 7 y = mT M a b c y := by simp only [mT, mI, mJ, wr_s, wr_wr, u4_7]
theorem mU_id : mU M (M.1 14 4) (M.1 14 5) (M.1 14 6) (M.1 14 7) = M := by rw [mU, st4_id, mI_id]
theorem mU_3 : (mU M a b c d).1 14 3 = M.1 14 3 := rfl
theorem mU_4 : (mU M a b c d).1 14 4 = a := rfl
theorem mU_5 : (mU M a b c d).1 14 5 = b := rfl
theorem mU_6 : (mU M a b c d).1 14 6 = c := rfl
theorem mU_7 : (mU M a b c d).1 14 7 = d := rfl
theorem mU_b : (mU M a b c d).1 15 = M.1 15 := rfl
theorem mU_w4 : mJ (mU M a b c d) 14 4 y = mU M y b c d := by simp only [mU, mI, mJ, wr_s, wr_wr, u4_4]
theorem mU_w5 : mJ (mU M a b c d) 14 5 y = mU M a y c d := by simp only [mU, mI, mJ, wr_s, wr_wr, u4_5]
theorem mU_w6 : mJ (mU M a b c d) 14 6 y = mU M a b y d := by simp only [mU, mI, mJ, wr_s, wr_wr, u4_6]
theorem mU_w7 : mJ (mU M a b c d) 14 7 y = mU M a b c y := by simp only [mU, mI, mJ, wr_s, wr_wr, u4_7]
end
theorem mT_st {M : ex_M} {b : Nat} (h : M.1 3 6 = nI b) : mJ M 3 5 (M.1 3 6) = mT M (M.1 3 4) (nI b) (nI b) (M.1 3 7) := by
  have q := mT_w5 M (M.1 3 4) (M.1 3 5) (M.1 3 6) (M.1 3 7) (M.1 3 6)
  rw [mT_id] at q
  rw [q, h]
def spc (x : Int32) : Bool := decide (x = 32)
def ltr (x : Int32) : Bool := !out x 97 122
def dgt (x : Int32) : Bool := !out x 48 57
def mn4 (x : Int32) : Int32 := if 10000 < x then 10000 else x
def run (q : Int32 → Bool) (t : Nat → Int32) : Nat → Nat → Nat
  | 0, p => p
  | m + 1, p => bif q (t p) then run q t m (p + 1) else p
def dig (t : Nat → Int32) : Nat → Nat → Int32 → Nat × Int32
  | 0, p, v => (p, v)
  | m + 1, p, v => bif dgt (t p) then dig t m (p + 1) (mn4 (10 * v + t p - 48)) else (p, v)
theorem run_le {q : Int32 → Bool} {t : Nat → Int32} : ∀ m p, p ≤ run q t m p ∧ run q t m p ≤ p + m
  | 0, p => ⟨Nat.le_refl _, Nat.le_refl _⟩
  | m + 1, p => by
    rw [run]
    cases q (t p) with
    | false => exact ⟨Nat.le_refl _, by simp only [cond_false]; omega⟩
    | true => have := run_le (q := q) (t := t) m (p + 1); simp only [cond_true]; omega
theorem dig_le {t : Nat → Int32} : ∀ m p v, p ≤ (dig t m p v).1 ∧ (dig t m p v).1 ≤ p + m
  | 0, p, v => ⟨Nat.le_refl _, Nat.le_refl _⟩
  | m + 1, p, v => by
    rw [dig]
    cases dgt (t p) with
    | false => exact ⟨Nat.le_refl _, by simp only [cond_false]; omega⟩
    | true => have := dig_le (t := t) m (p + 1) (mn4 (10 * v + t p - 48)); simp only [cond_true]; omega
/-- the token that begins at p -/
def tkP (l p : Nat) (M : ex_M) : ex_M := if l ≤ p then mT M 0 (nI p) (nI p) (M.1 3 7) else
  bif ltr (M.1 4 p) then mT M 1 (nI p) (nI (run ltr (M.1 4) (l - p) p)) (M.1 3 7) else
  bif dgt (M.1 4 p) then mT M 2 (nI p) (nI (dig (M.1 4) (l - p) p 0).1) (dig (M.1 4) (l - p) p 0).2 else
  mT M (if M.1 4 p = 59 then 3 else 4) (nI p) (nI (p + 1)) (M.1 3 7)
def stC (M : ex_M) (l b : Nat) : ex_M := tkP l (run spc (M.1 4) (l - b) b) M


set_option maxHeartbeats 2000000 in
set_option maxRecDepth 10000 in
theorem c_Text_isLetter {G : ex_G} {M : ex_M} {x : Int32} : Con G Y_Text_isLetter 0 0 0 0 [.int x] (ce G M) (some (.int (bi (ltr x)))) (ce G (M)) := by
  refine Con.ofF (plainFor_of_name (by decide +kernel)) (Nat.le_of_ble_eq_true rfl) (fun C hC hR => ?_)
  show Ev G C Y_Text_isLetter 0 [some (.int x)] [] 0 0 (ce G M)
  refine ev_iload_n rfl hC d_Text_isLetter_0 ?_
  refine ev_bipush (v := 97) rfl hC d_Text_isLetter_1 ?_
  refine ev_icmp_lt 16 hC d_Text_isLetter_3 rfl (fun h_3 => ?_) (fun h_3 => ?_)
  · refine ev_iconst (v := 0) rfl hC d_Text_isLetter_16 ?_
    exact ev_zret hC hR d_Text_isLetter_17 rfl (by first | exact bi_nar _ | decide) (by simp [ltr, out, bi, h_3]) (rfl)
  · refine ev_iload_n rfl hC d_Text_isLetter_6 ?_
    refine ev_bipush (v := 122) rfl hC d_Text_isLetter_7 ?_
    refine ev_icmp_gt 16 hC d_Text_isLetter_9 rfl (fun h_9 => ?_) (fun h_9 => ?_)
    · refine ev_iconst (v := 0) rfl hC d_Text_isLetter_16 ?_
      exact ev_zret hC hR d_Text_isLetter_17 rfl (by first | exact bi_nar _ | decide) (by simp [ltr, out, bi, h_3, h_9]) (rfl)
    · refine ev_iconst (v := 1) rfl hC d_Text_isLetter_12 ?_
      refine ev_goto 17 hC d_Text_isLetter_13 rfl ?_
      exact ev_zret hC hR d_Text_isLetter_17 rfl (by first | exact bi_nar _ | decide) (by simp [ltr, out, bi, h_3, h_9]) (rfl)


set_option maxHeartbeats 2000000 in
set_option maxRecDepth 10000 in
theorem c_Text_isDigit {G : ex_G} {M : ex_M} {x : Int32} : Con G Y_Text_isDigit 0 0 0 0 [.int x] (ce G M) (some (.int (bi (dgt x)))) (ce G (M)) := by
  refine Con.ofF (plainFor_of_name (by decide +kernel)) (Nat.le_of_ble_eq_true rfl) (fun C hC hR => ?_)
  show Ev G C Y_Text_isDigit 0 [some (.int x)] [] 0 0 (ce G M)
  refine ev_iload_n rfl hC d_Text_isDigit_0 ?_
  refine ev_bipush (v := 48) rfl hC d_Text_isDigit_1 ?_
  refine ev_icmp_lt 16 hC d_Text_isDigit_3 rfl (fun h_3 => ?_) (fun h_3 => ?_)
  · refine ev_iconst (v := 0) rfl hC d_Text_isDigit_16 ?_
    exact ev_zret hC hR d_Text_isDigit_17 rfl (by first | exact bi_nar _ | decide) (by simp [dgt, out, bi, h_3]) (rfl)
  · refine ev_iload_n rfl hC d_Text_isDigit_6 ?_
    refine ev_bipush (v := 57) rfl hC d_Text_isDigit_7 ?_
    refine ev_icmp_gt 16 hC d_Text_isDigit_9 rfl (fun h_9 => ?_) (fun h_9 => ?_)
    · refine ev_iconst (v := 0) rfl hC d_Text_isDigit_16 ?_
      exact ev_zret hC hR d_Text_isDigit_17 rfl (by first | exact bi_nar _ | decide) (by simp [dgt, out, bi, h_3, h_9]) (rfl)
    · refine ev_iconst (v := 1) rfl hC d_Text_isDigit_12 ?_
      refine ev_goto 17 hC d_Text_isDigit_13 rfl ?_
      exact ev_zret hC hR d_Text_isDigit_17 rfl (by first | exact bi_nar _ | decide) (by simp [dgt, out, bi, h_3, h_9]) (rfl)

set_option maxHeartbeats 4000000 in
set_option maxRecDepth 10000 in
theorem lp_step1 {G : ex_G} {C : ex_C} {l : Nat} {tk e v : Int32} (hl : l ≤ 120) (hC : Cx G C Y_Text_step { frames := 1, cells := 0, slots := 0, locals := 21 }) :
    ∀ (m i : Nat) (M : ex_M), i + m = l → M.1 3 3 = nI l → Ev G C Y_Text_step 46 [some (.ref (ex_b G + 59))] [] 0 0 (ce G (mT M tk (nI (run spc (M.1 4) m i)) e v)) → Ev G C Y_Text_step 8 [some (.ref (ex_b G + 59))] [] 0 0 (ce G (mT M tk (nI i) e v)) := by
  intro m
  induction m with
  | zero =>
    intro i M hm hc he
    try simp only [mT_3, mT_4, mT_5, mT_6, mT_7, mT_b, mT_w4, mT_w5, mT_w6, mT_w7]
    refine ev_aload_n rfl hC d_Text_step_8 ?_
    refine gv_Text_place hC d_Text_step_9 fl_Text_32  ?_
    try simp only [mT_3, mT_4, mT_5, mT_6, mT_7, mT_b, mT_w4, mT_w5, mT_w6, mT_w7]
    refine ev_aload_n rfl hC d_Text_step_12 ?_
    refine gv_Text_length hC d_Text_step_13 fl_Text_15  ?_
    try simp only [mT_3, mT_4, mT_5, mT_6, mT_7, mT_b, mT_w4, mT_w5, mT_w6, mT_w7]
    refine ev_icmp_ge 46 hC d_Text_step_16 rfl (fun _ => ?_) (fun h => absurd (by rw [hc]; exact nI_le (by omega) (by omega)) h)
    exact he
  | succ m ih =>
    intro i M hm hc he
    skip
    try simp only [mT_3, mT_4, mT_5, mT_6, mT_7, mT_b, mT_w4, mT_w5, mT_w6, mT_w7]
    refine ev_aload_n rfl hC d_Text_step_8 ?_
    refine gv_Text_place hC d_Text_step_9 fl_Text_32  ?_
    try simp only [mT_3, mT_4, mT_5, mT_6, mT_7, mT_b, mT_w4, mT_w5, mT_w6, mT_w7]
    refine ev_aload_n rfl hC d_Text_step_12 ?_
    refine gv_Text_length hC d_Text_step_13 fl_Text_15  ?_
    try simp only [mT_3, mT_4, mT_5, mT_6, mT_7, mT_b, mT_w4, mT_w5, mT_w6, mT_w7]
    refine ev_icmp_ge 46 hC d_Text_step_16 rfl (fun h => absurd h (by rw [hc]; exact nI_ge (by omega) (by omega))) (fun _ => ?_)
    refine ev_aload_n rfl hC d_Text_step_19 ?_
    refine gv_Text_bytes hC d_Text_step_20 fl_Text_9  ?_
    refine ev_aload_n rfl hC d_Text_step_23 ?_
    refine gv_Text_place hC d_Text_step_24 fl_Text_32  ?_
    try simp only [mT_3, mT_4, mT_5, mT_6, mT_7, mT_b, mT_w4, mT_w5, mT_w6, mT_w7]
    refine ga_bytes hC d_Text_step_27 (by first | assumption | omega) ?_
    try simp only [mT_3, mT_4, mT_5, mT_6, mT_7, mT_b, mT_w4, mT_w5, mT_w6, mT_w7]
    refine ev_bipush (v := 32) rfl hC d_Text_step_28 ?_
    refine ev_icmp_ne 46 hC d_Text_step_30 rfl (fun h_30 => ?_) (fun h_30 => ?_)
    · rw [run, show spc (M.1 4 i) = false from decide_eq_false h_30, cond_false] at he
      exact he
    · refine ev_aload_n rfl hC d_Text_step_33 ?_
      refine ev_dup rfl hC d_Text_step_34 ?_
      refine gv_Text_place hC d_Text_step_35 fl_Text_32  ?_
      try simp only [mT_3, mT_4, mT_5, mT_6, mT_7, mT_b, mT_w4, mT_w5, mT_w6, mT_w7]
      refine ev_iconst (v := 1) rfl hC d_Text_step_38 ?_
      refine ev_iadd hC d_Text_step_39 ?_
      rw [nI_1]
      refine pv_Text_place hC d_Text_step_40 fl_Text_32  ?_
      try simp only [mT_3, mT_4, mT_5, mT_6, mT_7, mT_b, mT_w4, mT_w5, mT_w6, mT_w7]
      refine ev_goto 8 hC d_Text_step_43 rfl ?_
      exact ih (i + 1) M (by omega) hc (by rw [run, show spc (M.1 4 i) = true from decide_eq_true h_30, cond_true] at he; exact he)

set_option maxHeartbeats 4000000 in
set_option maxRecDepth 10000 in
theorem lp_step2 {G : ex_G} {C : ex_C} {l : Nat} {tk pl v : Int32} (hl : l ≤ 120) (hC : Cx G C Y_Text_step { frames := 1, cells := 0, slots := 0, locals := 21 }) :
    ∀ (m i : Nat) (M : ex_M), i + m = l → M.1 3 3 = nI l → Ev G C Y_Text_step 259 [some (.ref (ex_b G + 59))] [] 0 0 (ce G (mT M tk pl (nI (run ltr (M.1 4) m i)) v)) → Ev G C Y_Text_step 93 [some (.ref (ex_b G + 59))] [] 0 0 (ce G (mT M tk pl (nI i) v)) := by
  intro m
  induction m with
  | zero =>
    intro i M hm hc he
    try simp only [mT_3, mT_4, mT_5, mT_6, mT_7, mT_b, mT_w4, mT_w5, mT_w6, mT_w7]
    refine ev_aload_n rfl hC d_Text_step_93 ?_
    refine gv_Text_behind hC d_Text_step_94 fl_Text_19  ?_
    try simp only [mT_3, mT_4, mT_5, mT_6, mT_7, mT_b, mT_w4, mT_w5, mT_w6, mT_w7]
    refine ev_aload_n rfl hC d_Text_step_97 ?_
    refine gv_Text_length hC d_Text_step_98 fl_Text_15  ?_
    try simp only [mT_3, mT_4, mT_5, mT_6, mT_7, mT_b, mT_w4, mT_w5, mT_w6, mT_w7]
    refine ev_icmp_ge 259 hC d_Text_step_101 rfl (fun _ => ?_) (fun h => absurd (by rw [hc]; exact nI_le (by omega) (by omega)) h)
    exact he
  | succ m ih =>
    intro i M hm hc he
    skip
    try simp only [mT_3, mT_4, mT_5, mT_6, mT_7, mT_b, mT_w4, mT_w5, mT_w6, mT_w7]
    refine ev_aload_n rfl hC d_Text_step_93 ?_
    refine gv_Text_behind hC d_Text_step_94 fl_Text_19  ?_
    try simp only [mT_3, mT_4, mT_5, mT_6, mT_7, mT_b, mT_w4, mT_w5, mT_w6, mT_w7]
    refine ev_aload_n rfl hC d_Text_step_97 ?_
    refine gv_Text_length hC d_Text_step_98 fl_Text_15  ?_
    try simp only [mT_3, mT_4, mT_5, mT_6, mT_7, mT_b, mT_w4, mT_w5, mT_w6, mT_w7]
    refine ev_icmp_ge 259 hC d_Text_step_101 rfl (fun h => absurd h (by rw [hc]; exact nI_ge (by omega) (by omega))) (fun _ => ?_)
    refine ev_aload_n rfl hC d_Text_step_104 ?_
    refine gv_Text_bytes hC d_Text_step_105 fl_Text_9  ?_
    refine ev_aload_n rfl hC d_Text_step_108 ?_
    refine gv_Text_behind hC d_Text_step_109 fl_Text_19  ?_
    try simp only [mT_3, mT_4, mT_5, mT_6, mT_7, mT_b, mT_w4, mT_w5, mT_w6, mT_w7]
    refine ga_bytes hC d_Text_step_112 (by first | assumption | omega) ?_
    try simp only [mT_3, mT_4, mT_5, mT_6, mT_7, mT_b, mT_w4, mT_w5, mT_w6, mT_w7]
    refine cs_1 hC d_Text_step_113 (c_Text_isLetter ) mi_Text_isLetter ml_Text_133 sm_Text_isLetter ⟨Nat.le_of_ble_eq_true rfl, Nat.le_of_ble_eq_true rfl⟩ ⟨Nat.le_of_ble_eq_true rfl, Nat.le_of_ble_eq_true rfl⟩ rfl rfl (Nat.le_of_ble_eq_true rfl) ?_
    refine eb_eq 259 hC d_Text_step_116 rfl (fun h_116 => ?_) (fun h_116 => ?_)
    · rw [run, h_116, cond_false] at he
      exact he
    · refine ev_aload_n rfl hC d_Text_step_119 ?_
      refine ev_dup rfl hC d_Text_step_120 ?_
      refine gv_Text_behind hC d_Text_step_121 fl_Text_19  ?_
      try simp only [mT_3, mT_4, mT_5, mT_6, mT_7, mT_b, mT_w4, mT_w5, mT_w6, mT_w7]
      refine ev_iconst (v := 1) rfl hC d_Text_step_124 ?_
      refine ev_iadd hC d_Text_step_125 ?_
      rw [nI_1]
      refine pv_Text_behind hC d_Text_step_126 fl_Text_19  ?_
      try simp only [mT_3, mT_4, mT_5, mT_6, mT_7, mT_b, mT_w4, mT_w5, mT_w6, mT_w7]
      refine ev_goto 93 hC d_Text_step_129 rfl ?_
      exact ih (i + 1) M (by omega) hc (by rw [run, h_116, cond_true] at he; exact he)

set_option maxHeartbeats 4000000 in
set_option maxRecDepth 10000 in
theorem lp_step3 {G : ex_G} {C : ex_C} {l : Nat} {tk pl : Int32} (hl : l ≤ 120) (hC : Cx G C Y_Text_step { frames := 1, cells := 0, slots := 0, locals := 21 }) :
    ∀ (m i : Nat) (M : ex_M) (v : Int32), i + m = l → M.1 3 3 = nI l → Ev G C Y_Text_step 259 [some (.ref (ex_b G + 59))] [] 0 0 (ce G (mT M tk pl (nI (dig (M.1 4) m i v).1) (dig (M.1 4) m i v).2)) → Ev G C Y_Text_step 157 [some (.ref (ex_b G + 59))] [] 0 0 (ce G (mT M tk pl (nI i) v)) := by
  intro m
  induction m with
  | zero =>
    intro i M v hm hc he
    try simp only [mT_3, mT_4, mT_5, mT_6, mT_7, mT_b, mT_w4, mT_w5, mT_w6, mT_w7]
    refine ev_aload_n rfl hC d_Text_step_157 ?_
    refine gv_Text_behind hC d_Text_step_158 fl_Text_19  ?_
    try simp only [mT_3, mT_4, mT_5, mT_6, mT_7, mT_b, mT_w4, mT_w5, mT_w6, mT_w7]
    refine ev_aload_n rfl hC d_Text_step_161 ?_
    refine gv_Text_length hC d_Text_step_162 fl_Text_15  ?_
    try simp only [mT_3, mT_4, mT_5, mT_6, mT_7, mT_b, mT_w4, mT_w5, mT_w6, mT_w7]
    refine ev_icmp_ge 259 hC d_Text_step_165 rfl (fun _ => ?_) (fun h => absurd (by rw [hc]; exact nI_le (by omega) (by omega)) h)
    exact he
  | succ m ih =>
    intro i M v hm hc he
    skip
    try simp only [mT_3, mT_4, mT_5, mT_6, mT_7, mT_b, mT_w4, mT_w5, mT_w6, mT_w7]
    refine ev_aload_n rfl hC d_Text_step_157 ?_
    refine gv_Text_behind hC d_Text_step_158 fl_Text_19  ?_
    try simp only [mT_3, mT_4, mT_5, mT_6, mT_7, mT_b, mT_w4, mT_w5, mT_w6, mT_w7]
    refine ev_aload_n rfl hC d_Text_step_161 ?_
    refine gv_Text_length hC d_Text_step_162 fl_Text_15  ?_
    try simp only [mT_3, mT_4, mT_5, mT_6, mT_7, mT_b, mT_w4, mT_w5, mT_w6, mT_w7]
    refine ev_icmp_ge 259 hC d_Text_step_165 rfl (fun h => absurd h (by rw [hc]; exact nI_ge (by omega) (by omega))) (fun _ => ?_)
    refine ev_aload_n rfl hC d_Text_step_168 ?_
    refine gv_Text_bytes hC d_Text_step_169 fl_Text_9  ?_
    refine ev_aload_n rfl hC d_Text_step_172 ?_
    refine gv_Text_behind hC d_Text_step_173 fl_Text_19  ?_
    try simp only [mT_3, mT_4, mT_5, mT_6, mT_7, mT_b, mT_w4, mT_w5, mT_w6, mT_w7]
    refine ga_bytes hC d_Text_step_176 (by first | assumption | omega) ?_
    try simp only [mT_3, mT_4, mT_5, mT_6, mT_7, mT_b, mT_w4, mT_w5, mT_w6, mT_w7]
    refine cs_1 hC d_Text_step_177 (c_Text_isDigit ) mi_Text_isDigit ml_Text_136 sm_Text_isDigit ⟨Nat.le_of_ble_eq_true rfl, Nat.le_of_ble_eq_true rfl⟩ ⟨Nat.le_of_ble_eq_true rfl, Nat.le_of_ble_eq_true rfl⟩ rfl rfl (Nat.le_of_ble_eq_true rfl) ?_
    refine eb_eq 259 hC d_Text_step_180 rfl (fun h_180 => ?_) (fun h_180 => ?_)
    · rw [dig, h_180, cond_false] at he
      exact he
    · refine ev_aload_n rfl hC d_Text_step_183 ?_
      refine ev_bipush (v := 10) rfl hC d_Text_step_184 ?_
      refine ev_aload_n rfl hC d_Text_step_186 ?_
      refine gv_Text_value hC d_Text_step_187 fl_Text_130  ?_
      try simp only [mT_3, mT_4, mT_5, mT_6, mT_7, mT_b, mT_w4, mT_w5, mT_w6, mT_w7]
      refine ev_imul hC d_Text_step_190 ?_
      refine ev_aload_n rfl hC d_Text_step_191 ?_
      refine gv_Text_bytes hC d_Text_step_192 fl_Text_9  ?_
      refine ev_aload_n rfl hC d_Text_step_195 ?_
      refine gv_Text_behind hC d_Text_step_196 fl_Text_19  ?_
      try simp only [mT_3, mT_4, mT_5, mT_6, mT_7, mT_b, mT_w4, mT_w5, mT_w6, mT_w7]
      refine ga_bytes hC d_Text_step_199 (by first | assumption | omega) ?_
      try simp only [mT_3, mT_4, mT_5, mT_6, mT_7, mT_b, mT_w4, mT_w5, mT_w6, mT_w7]
      refine ev_iadd hC d_Text_step_200 ?_
      refine ev_bipush (v := 48) rfl hC d_Text_step_201 ?_
      refine ev_isub hC d_Text_step_203 ?_
      refine ev_sipush (v := 10000) rfl hC d_Text_step_204 ?_
      refine cs_1 hC d_Text_step_207 (c_Math_min ) mi_Math_min ml_Text_139 sm_Math_min ⟨Nat.le_of_ble_eq_true rfl, Nat.le_of_ble_eq_true rfl⟩ ⟨Nat.le_of_ble_eq_true rfl, Nat.le_of_ble_eq_true rfl⟩ rfl rfl (Nat.le_of_ble_eq_true rfl) ?_
      refine pv_Text_value hC d_Text_step_210 fl_Text_130  ?_
      try simp only [mT_3, mT_4, mT_5, mT_6, mT_7, mT_b, mT_w4, mT_w5, mT_w6, mT_w7]
      refine ev_aload_n rfl hC d_Text_step_213 ?_
      refine ev_dup rfl hC d_Text_step_214 ?_
      refine gv_Text_behind hC d_Text_step_215 fl_Text_19  ?_
      try simp only [mT_3, mT_4, mT_5, mT_6, mT_7, mT_b, mT_w4, mT_w5, mT_w6, mT_w7]
      refine ev_iconst (v := 1) rfl hC d_Text_step_218 ?_
      refine ev_iadd hC d_Text_step_219 ?_
      rw [nI_1]
      refine pv_Text_behind hC d_Text_step_220 fl_Text_19  ?_
      try simp only [mT_3, mT_4, mT_5, mT_6, mT_7, mT_b, mT_w4, mT_w5, mT_w6, mT_w7]
      refine ev_goto 157 hC d_Text_step_223 rfl ?_
      exact ih (i + 1) M _ (by omega) hc (by rw [dig, h_180, cond_true] at he; exact he)

set_option maxHeartbeats 2000000 in
set_option maxRecDepth 10000 in
theorem c_Text_step {G : ex_G} {M : ex_M} {l b : Nat} (hl : l ≤ 120) (hb : b ≤ l) (hc : M.1 3 3 = nI l) (he : M.1 3 6 = nI b) : Con G Y_Text_step 1 21 0 0 [.ref (ex_b G + 59)] (ce G M) (none) (ce G (stC M l b)) := by
  refine Con.ofF (plainFor_of_name (by decide +kernel)) (Nat.le_of_ble_eq_true rfl) (fun C hC hR => ?_)
  show Ev G C Y_Text_step 0 [some (.ref (ex_b G + 59))] [] 0 0 (ce G M)
  refine ev_aload_n rfl hC d_Text_step_0 ?_
  refine ev_aload_n rfl hC d_Text_step_1 ?_
  refine gv_Text_behind hC d_Text_step_2 fl_Text_19  ?_
  refine pv_Text_place hC d_Text_step_5 fl_Text_32  ?_
  refine Ev.to (lp_step1 hl hC (l - b) b M (by omega) hc ?_) rfl rfl (congrArg (ce G) (mT_st he))
  generalize hp : run spc (M.1 4) (l - b) b = p
  have hpl : p ≤ l := by have := run_le (q := spc) (t := M.1 4) (l - b) b; omega
  rw [show stC M l b = tkP l p M by rw [stC, hp]] at hR
  refine ev_aload_n rfl hC d_Text_step_46 ?_
  refine ev_aload_n rfl hC d_Text_step_47 ?_
  refine gv_Text_place hC d_Text_step_48 fl_Text_32  ?_
  try simp only [mT_3, mT_4, mT_5, mT_6, mT_7, mT_b, mT_w4, mT_w5, mT_w6, mT_w7]
  refine pv_Text_behind hC d_Text_step_51 fl_Text_19  ?_
  try simp only [mT_3, mT_4, mT_5, mT_6, mT_7, mT_b, mT_w4, mT_w5, mT_w6, mT_w7]
  refine ev_aload_n rfl hC d_Text_step_54 ?_
  refine gv_Text_place hC d_Text_step_55 fl_Text_32  ?_
  try simp only [mT_3, mT_4, mT_5, mT_6, mT_7, mT_b, mT_w4, mT_w5, mT_w6, mT_w7]
  refine ev_aload_n rfl hC d_Text_step_58 ?_
  refine gv_Text_length hC d_Text_step_59 fl_Text_15  ?_
  try simp only [mT_3, mT_4, mT_5, mT_6, mT_7, mT_b, mT_w4, mT_w5, mT_w6, mT_w7]
  refine ev_icmp_lt 73 hC d_Text_step_62 rfl (fun h_62 => ?_) (fun h_62 => ?_)
  · have hlp : ¬ l ≤ p := fun z => absurd h_62 (by rw [hc]; exact nI_nlt z (by omega))
    refine ev_aload_n rfl hC d_Text_step_73 ?_
    refine gv_Text_bytes hC d_Text_step_74 fl_Text_9  ?_
    refine ev_aload_n rfl hC d_Text_step_77 ?_
    refine gv_Text_place hC d_Text_step_78 fl_Text_32  ?_
    try simp only [mT_3, mT_4, mT_5, mT_6, mT_7, mT_b, mT_w4, mT_w5, mT_w6, mT_w7]
    refine ga_bytes hC d_Text_step_81 (by first | assumption | omega) ?_
    try simp only [mT_3, mT_4, mT_5, mT_6, mT_7, mT_b, mT_w4, mT_w5, mT_w6, mT_w7]
    refine cs_1 hC d_Text_step_82 (c_Text_isLetter ) mi_Text_isLetter ml_Text_133 sm_Text_isLetter ⟨Nat.le_of_ble_eq_true rfl, Nat.le_of_ble_eq_true rfl⟩ ⟨Nat.le_of_ble_eq_true rfl, Nat.le_of_ble_eq_true rfl⟩ rfl rfl (Nat.le_of_ble_eq_true rfl) ?_
    refine eb_eq 132 hC d_Text_step_85 rfl (fun h_85 => ?_) (fun h_85 => ?_)
    · refine ev_aload_n rfl hC d_Text_step_132 ?_
      refine gv_Text_bytes hC d_Text_step_133 fl_Text_9  ?_
      refine ev_aload_n rfl hC d_Text_step_136 ?_
      refine gv_Text_place hC d_Text_step_137 fl_Text_32  ?_
      try simp only [mT_3, mT_4, mT_5, mT_6, mT_7, mT_b, mT_w4, mT_w5, mT_w6, mT_w7]
      refine ga_bytes hC d_Text_step_140 (by first | assumption | omega) ?_
      try simp only [mT_3, mT_4, mT_5, mT_6, mT_7, mT_b, mT_w4, mT_w5, mT_w6, mT_w7]
      refine cs_1 hC d_Text_step_141 (c_Text_isDigit ) mi_Text_isDigit ml_Text_136 sm_Text_isDigit ⟨Nat.le_of_ble_eq_true rfl, Nat.le_of_ble_eq_true rfl⟩ ⟨Nat.le_of_ble_eq_true rfl, Nat.le_of_ble_eq_true rfl⟩ rfl rfl (Nat.le_of_ble_eq_true rfl) ?_
      refine eb_eq 226 hC d_Text_step_144 rfl (fun h_144 => ?_) (fun h_144 => ?_)
      · refine ev_aload_n rfl hC d_Text_step_226 ?_
        refine ev_aload_n rfl hC d_Text_step_227 ?_
        refine gv_Text_bytes hC d_Text_step_228 fl_Text_9  ?_
        refine ev_aload_n rfl hC d_Text_step_231 ?_
        refine gv_Text_place hC d_Text_step_232 fl_Text_32  ?_
        try simp only [mT_3, mT_4, mT_5, mT_6, mT_7, mT_b, mT_w4, mT_w5, mT_w6, mT_w7]
        refine ga_bytes hC d_Text_step_235 (by first | assumption | omega) ?_
        try simp only [mT_3, mT_4, mT_5, mT_6, mT_7, mT_b, mT_w4, mT_w5, mT_w6, mT_w7]
        refine ev_bipush (v := 59) rfl hC d_Text_step_236 ?_
        refine ev_icmp_ne 245 hC d_Text_step_238 rfl (fun h_238 => ?_) (fun h_238 => ?_)
        · refine ev_iconst (v := 4) rfl hC d_Text_step_245 ?_
          refine pv_Text_token hC d_Text_step_246 fl_Text_29  ?_
          try simp only [mT_3, mT_4, mT_5, mT_6, mT_7, mT_b, mT_w4, mT_w5, mT_w6, mT_w7]
          refine ev_aload_n rfl hC d_Text_step_249 ?_
          refine ev_aload_n rfl hC d_Text_step_250 ?_
          refine gv_Text_place hC d_Text_step_251 fl_Text_32  ?_
          try simp only [mT_3, mT_4, mT_5, mT_6, mT_7, mT_b, mT_w4, mT_w5, mT_w6, mT_w7]
          refine ev_iconst (v := 1) rfl hC d_Text_step_254 ?_
          refine ev_iadd hC d_Text_step_255 ?_
          rw [nI_1]
          refine pv_Text_behind hC d_Text_step_256 fl_Text_19  ?_
          try simp only [mT_3, mT_4, mT_5, mT_6, mT_7, mT_b, mT_w4, mT_w5, mT_w6, mT_w7]
          exact ev_vret hC hR d_Text_step_259 rfl rfl (by rw [tkP, if_neg hlp]; simp only [h_85, h_144, cond_false, if_neg h_238])
        · refine ev_iconst (v := 3) rfl hC d_Text_step_241 ?_
          refine ev_goto 246 hC d_Text_step_242 rfl ?_
          refine pv_Text_token hC d_Text_step_246 fl_Text_29  ?_
          try simp only [mT_3, mT_4, mT_5, mT_6, mT_7, mT_b, mT_w4, mT_w5, mT_w6, mT_w7]
          refine ev_aload_n rfl hC d_Text_step_249 ?_
          refine ev_aload_n rfl hC d_Text_step_250 ?_
          refine gv_Text_place hC d_Text_step_251 fl_Text_32  ?_
          try simp only [mT_3, mT_4, mT_5, mT_6, mT_7, mT_b, mT_w4, mT_w5, mT_w6, mT_w7]
          refine ev_iconst (v := 1) rfl hC d_Text_step_254 ?_
          refine ev_iadd hC d_Text_step_255 ?_
          rw [nI_1]
          refine pv_Text_behind hC d_Text_step_256 fl_Text_19  ?_
          try simp only [mT_3, mT_4, mT_5, mT_6, mT_7, mT_b, mT_w4, mT_w5, mT_w6, mT_w7]
          exact ev_vret hC hR d_Text_step_259 rfl rfl (by rw [tkP, if_neg hlp]; simp only [h_85, h_144, cond_false, if_pos h_238])
      · refine ev_aload_n rfl hC d_Text_step_147 ?_
        refine ev_iconst (v := 2) rfl hC d_Text_step_148 ?_
        refine pv_Text_token hC d_Text_step_149 fl_Text_29  ?_
        try simp only [mT_3, mT_4, mT_5, mT_6, mT_7, mT_b, mT_w4, mT_w5, mT_w6, mT_w7]
        refine ev_aload_n rfl hC d_Text_step_152 ?_
        refine ev_iconst (v := 0) rfl hC d_Text_step_153 ?_
        refine pv_Text_value hC d_Text_step_154 fl_Text_130  ?_
        simp only [mT_3, mT_4, mT_5, mT_6, mT_7, mT_b, mT_w4, mT_w5, mT_w6, mT_w7]
        refine lp_step3 hl hC (l - p) p M 0 (by omega) hc ?_
        exact ev_vret hC hR d_Text_step_259 rfl rfl (by rw [tkP, if_neg hlp]; simp only [h_85, h_144, cond_false, cond_true])
    · refine ev_aload_n rfl hC d_Text_step_88 ?_
      refine ev_iconst (v := 1) rfl hC d_Text_step_89 ?_
      refine pv_Text_token hC d_Text_step_90 fl_Text_29  ?_
      simp only [mT_3, mT_4, mT_5, mT_6, mT_7, mT_b, mT_w4, mT_w5, mT_w6, mT_w7]
      refine lp_step2 hl hC (l - p) p M (by omega) hc ?_
      exact ev_vret hC hR d_Text_step_259 rfl rfl (by rw [tkP, if_neg hlp]; simp only [h_85, cond_true])
  · have hlp : l ≤ p := by
      rcases Nat.lt_or_ge p l with z | z
      · exact absurd (by rw [hc]; exact nI_lt z (by omega)) h_62
      · exact z
    refine ev_aload_n rfl hC d_Text_step_65 ?_
    refine ev_iconst (v := 0) rfl hC d_Text_step_66 ?_
    refine pv_Text_token hC d_Text_step_67 fl_Text_29  ?_
    try simp only [mT_3, mT_4, mT_5, mT_6, mT_7, mT_b, mT_w4, mT_w5, mT_w6, mT_w7]
    refine ev_goto 259 hC d_Text_step_70 rfl ?_
    try simp only [mT_3, mT_4, mT_5, mT_6, mT_7, mT_b, mT_w4, mT_w5, mT_w6, mT_w7]
    exact ev_vret hC hR d_Text_step_259 rfl rfl (by rw [tkP, if_pos hlp])
