/-! the reference's text -/
def bA (M : ex_M) (l p : Nat) : Int32 := if l ≤ p then -1 else M.1 15 p
theorem mn4_eq (x : Int32) : (if x < 10000 then x else 10000) = mn4 x := by
  unfold mn4
  by_cases h : x < 10000
  · rw [if_pos h, if_neg (fun z => by rw [Int32.lt_iff_toInt_lt] at h z; omega)]
  · rw [if_neg h]
    by_cases h2 : 10000 < x
    · rw [if_pos h2]
    · rw [if_neg h2]
      apply Int32.toInt_inj.mp
      rw [Int32.lt_iff_toInt_lt] at h h2
      omega
theorem bA_ge {M : ex_M} {l p : Nat} (h : l ≤ p) : bA M l p = -1 := by unfold bA; rw [if_pos h]
theorem bA_lt {M : ex_M} {l p : Nat} (h : ¬ l ≤ p) : bA M l p = M.1 15 p := by unfold bA; rw [if_neg h]
theorem bA_mU (M : ex_M) (a b c d : Int32) (l p : Nat) : bA (mU M a b c d) l p = bA M l p := rfl
theorem mU_st {M : ex_M} {b : Nat} (h : M.1 14 5 = nI b) : mJ M 14 4 (M.1 14 5) = mU M (nI b) (nI b) (M.1 14 6) (M.1 14 7) := by
  have q := mU_w4 M (M.1 14 4) (M.1 14 5) (M.1 14 6) (M.1 14 7) (M.1 14 5)
  rw [mU_id] at q
  rw [q, h]
theorem out_m1a : out (-1) 97 122 = true := by decide
theorem out_m1d : out (-1) 48 57 = true := by decide
theorem ltr_t {x : Int32} (h : out x 97 122 = false) : ltr x = true := by rw [ltr, h]; rfl
theorem ltr_f {x : Int32} (h : out x 97 122 = true) : ltr x = false := by rw [ltr, h]; rfl
theorem dgt_t {x : Int32} (h : out x 48 57 = false) : dgt x = true := by rw [dgt, h]; rfl
theorem dgt_f {x : Int32} (h : out x 48 57 = true) : dgt x = false := by rw [dgt, h]; rfl
/-- the reference's token that begins at p -/
def nxP (l p : Nat) (M : ex_M) : ex_M := if l ≤ p then mU M (nI p) (nI p) 0 0 else
  bif ltr (M.1 15 p) then mU M (nI p) (nI (run ltr (M.1 15) (l - p) p)) 1 0 else
  bif dgt (M.1 15 p) then mU M (nI p) (nI (dig (M.1 15) (l - p) p 0).1) 2 (dig (M.1 15) (l - p) p 0).2 else
  mU M (nI p) (nI (p + 1)) 3 0
def nxC (M : ex_M) (l b : Nat) : ex_M := nxP l (run spc (M.1 15) (l - b) b) M
def nxt (M : ex_M) : ex_M := nxC M (ix (M.1 14 3)) (ix (M.1 14 5))

set_option maxHeartbeats 2000000 in
set_option maxRecDepth 10000 in
theorem c_Mod_byteAt {G : ex_G} {M : ex_M} {l p : Nat} (hl : l ≤ 120) (e : M.1 14 3 = nI l) (hp : p ≤ l) : Con G Y_Mod_byteAt 0 0 0 0 [.ref (ex_b G + 71), .int (nI p)] (ce G M) (some (.int (bA M l p))) (ce G (M)) := by
  refine Con.ofF (plainFor_of_name (by decide +kernel)) (Nat.le_of_ble_eq_true rfl) (fun C hC hR => ?_)
  show Ev G C Y_Mod_byteAt 0 [some (.ref (ex_b G + 71)), some (.int (nI p))] [] 0 0 (ce G M)
  refine ev_iload_n rfl hC d_Mod_byteAt_0 ?_
  refine ev_aload_n rfl hC d_Mod_byteAt_1 ?_
  refine gv_Mod_taped hC d_Mod_byteAt_2 fl_Mod_222  ?_
  refine ev_icmp_ge 17 hC d_Mod_byteAt_5 rfl (fun h_5 => ?_) (fun h_5 => ?_)
  · have hlp : l ≤ p := by
      rcases Nat.lt_or_ge p l with z | z
      · exact absurd h_5 (by rw [e]; exact nI_ge z (by omega))
      · exact z
    refine ev_iconst (v := -1) rfl hC d_Mod_byteAt_17 ?_
    exact ev_iret hC hR d_Mod_byteAt_18 rfl (by rw [bA, if_pos hlp]) (rfl)
  · have hlp : ¬ l ≤ p := fun z => h_5 (by rw [e]; exact nI_le z (by omega))
    refine ev_aload_n rfl hC d_Mod_byteAt_8 ?_
    refine gv_Mod_tape hC d_Mod_byteAt_9 fl_Mod_26  ?_
    refine ev_iload_n rfl hC d_Mod_byteAt_12 ?_
    refine ga_tape hC d_Mod_byteAt_13 (by first | assumption | omega) ?_
    refine ev_goto 18 hC d_Mod_byteAt_14 rfl ?_
    exact ev_iret hC hR d_Mod_byteAt_18 rfl (by rw [bA, if_neg hlp]) (rfl)

set_option maxHeartbeats 4000000 in
set_option maxRecDepth 10000 in
theorem lp_next1 {G : ex_G} {C : ex_C} {l : Nat} {e so v : Int32} (hl : l ≤ 120) (hC : Cx G C Y_Mod_next { frames := 1, cells := 0, slots := 0, locals := 22 }) :
    ∀ (m i : Nat) (M : ex_M), i + m = l → M.1 14 3 = nI l → Ev G C Y_Mod_next 34 [some (.ref (ex_b G + 71))] [] 0 0 (ce G (mU M (nI (run spc (M.1 15) m i)) e so v)) → Ev G C Y_Mod_next 8 [some (.ref (ex_b G + 71))] [] 0 0 (ce G (mU M (nI i) e so v)) := by
  intro m
  induction m with
  | zero =>
    intro i M hm hc he
    try simp only [mU_3, mU_4, mU_5, mU_6, mU_7, mU_b, mU_w4, mU_w5, mU_w6, mU_w7, bA_mU]
    refine ev_aload_n rfl hC d_Mod_next_8 ?_
    refine ev_aload_n rfl hC d_Mod_next_9 ?_
    refine gv_Mod_begins hC d_Mod_next_10 fl_Mod_228  ?_
    try simp only [mU_3, mU_4, mU_5, mU_6, mU_7, mU_b, mU_w4, mU_w5, mU_w6, mU_w7, bA_mU]
    refine cv_Mod1 hC d_Mod_next_13 (c_Mod_byteAt hl hc (by omega)) mi_Mod_byteAt ml_Mod_231 im_Mod_byteAt se_Mod_byteAt rfl ⟨Nat.le_of_ble_eq_true rfl, Nat.le_of_ble_eq_true rfl⟩ ⟨Nat.le_of_ble_eq_true rfl, Nat.le_of_ble_eq_true rfl⟩ rfl rfl (Nat.le_of_ble_eq_true rfl)  ?_
    try simp only [mU_3, mU_4, mU_5, mU_6, mU_7, mU_b, mU_w4, mU_w5, mU_w6, mU_w7, bA_mU]
    refine ev_bipush (v := 32) rfl hC d_Mod_next_16 ?_
    refine ev_icmp_ne 34 hC d_Mod_next_18 rfl (fun _ => ?_) (fun h => absurd h (by rw [bA_ge (by omega)]; decide))
    exact he
  | succ m ih =>
    intro i M hm hc he
    have hil : ¬ l ≤ i := by omega
    try simp only [mU_3, mU_4, mU_5, mU_6, mU_7, mU_b, mU_w4, mU_w5, mU_w6, mU_w7, bA_mU]
    refine ev_aload_n rfl hC d_Mod_next_8 ?_
    refine ev_aload_n rfl hC d_Mod_next_9 ?_
    refine gv_Mod_begins hC d_Mod_next_10 fl_Mod_228  ?_
    try simp only [mU_3, mU_4, mU_5, mU_6, mU_7, mU_b, mU_w4, mU_w5, mU_w6, mU_w7, bA_mU]
    refine cv_Mod1 hC d_Mod_next_13 (c_Mod_byteAt hl hc (by omega)) mi_Mod_byteAt ml_Mod_231 im_Mod_byteAt se_Mod_byteAt rfl ⟨Nat.le_of_ble_eq_true rfl, Nat.le_of_ble_eq_true rfl⟩ ⟨Nat.le_of_ble_eq_true rfl, Nat.le_of_ble_eq_true rfl⟩ rfl rfl (Nat.le_of_ble_eq_true rfl)  ?_
    try simp only [mU_3, mU_4, mU_5, mU_6, mU_7, mU_b, mU_w4, mU_w5, mU_w6, mU_w7, bA_mU]
    rw [bA_lt hil]
    refine ev_bipush (v := 32) rfl hC d_Mod_next_16 ?_
    refine ev_icmp_ne 34 hC d_Mod_next_18 rfl (fun h_18 => ?_) (fun h_18 => ?_)
    · rw [run, show spc (M.1 15 i) = false from decide_eq_false h_18, cond_false] at he
      exact he
    · refine ev_aload_n rfl hC d_Mod_next_21 ?_
      refine ev_dup rfl hC d_Mod_next_22 ?_
      refine gv_Mod_begins hC d_Mod_next_23 fl_Mod_228  ?_
      try simp only [mU_3, mU_4, mU_5, mU_6, mU_7, mU_b, mU_w4, mU_w5, mU_w6, mU_w7, bA_mU]
      refine ev_iconst (v := 1) rfl hC d_Mod_next_26 ?_
      refine ev_iadd hC d_Mod_next_27 ?_
      rw [nI_1]
      refine pv_Mod_begins hC d_Mod_next_28 fl_Mod_228  ?_
      try simp only [mU_3, mU_4, mU_5, mU_6, mU_7, mU_b, mU_w4, mU_w5, mU_w6, mU_w7, bA_mU]
      refine ev_goto 8 hC d_Mod_next_31 rfl ?_
      exact ih (i + 1) M (by omega) hc (by rw [run, show spc (M.1 15 i) = true from decide_eq_true h_18, cond_true] at he; exact he)

set_option maxHeartbeats 4000000 in
set_option maxRecDepth 10000 in
theorem lp_next2 {G : ex_G} {C : ex_C} {l : Nat} {pl so v cc : Int32} (hl : l ≤ 120) (hC : Cx G C Y_Mod_next { frames := 1, cells := 0, slots := 0, locals := 22 }) :
    ∀ (m i : Nat) (M : ex_M), i + m = l → M.1 14 3 = nI l → Ev G C Y_Mod_next 206 [some (.ref (ex_b G + 71)), some (.int cc)] [] 0 0 (ce G (mU M pl (nI (run ltr (M.1 15) m i)) so v)) → Ev G C Y_Mod_next 84 [some (.ref (ex_b G + 71)), some (.int cc)] [] 0 0 (ce G (mU M pl (nI i) so v)) := by
  intro m
  induction m with
  | zero =>
    intro i M hm hc he
    try simp only [mU_3, mU_4, mU_5, mU_6, mU_7, mU_b, mU_w4, mU_w5, mU_w6, mU_w7, bA_mU]
    refine ev_aload_n rfl hC d_Mod_next_84 ?_
    refine ev_aload_n rfl hC d_Mod_next_85 ?_
    refine gv_Mod_ends hC d_Mod_next_86 fl_Mod_225  ?_
    try simp only [mU_3, mU_4, mU_5, mU_6, mU_7, mU_b, mU_w4, mU_w5, mU_w6, mU_w7, bA_mU]
    refine cv_Mod1 hC d_Mod_next_89 (c_Mod_byteAt hl hc (by omega)) mi_Mod_byteAt ml_Mod_231 im_Mod_byteAt se_Mod_byteAt rfl ⟨Nat.le_of_ble_eq_true rfl, Nat.le_of_ble_eq_true rfl⟩ ⟨Nat.le_of_ble_eq_true rfl, Nat.le_of_ble_eq_true rfl⟩ rfl rfl (Nat.le_of_ble_eq_true rfl)  ?_
    try simp only [mU_3, mU_4, mU_5, mU_6, mU_7, mU_b, mU_w4, mU_w5, mU_w6, mU_w7, bA_mU]
    refine ev_bipush (v := 97) rfl hC d_Mod_next_92 ?_
    refine ev_bipush (v := 122) rfl hC d_Mod_next_94 ?_
    refine cs_1 hC d_Mod_next_96 (c_Mod_within ) mi_Mod_within ml_Mod_68 sm_Mod_within ⟨Nat.le_of_ble_eq_true rfl, Nat.le_of_ble_eq_true rfl⟩ ⟨Nat.le_of_ble_eq_true rfl, Nat.le_of_ble_eq_true rfl⟩ rfl rfl (Nat.le_of_ble_eq_true rfl) ?_
    refine en_eq 206 hC d_Mod_next_99 rfl (fun _ => ?_) (fun h => absurd h (by rw [bA_ge (by omega)]; decide))
    exact he
  | succ m ih =>
    intro i M hm hc he
    have hil : ¬ l ≤ i := by omega
    try simp only [mU_3, mU_4, mU_5, mU_6, mU_7, mU_b, mU_w4, mU_w5, mU_w6, mU_w7, bA_mU]
    refine ev_aload_n rfl hC d_Mod_next_84 ?_
    refine ev_aload_n rfl hC d_Mod_next_85 ?_
    refine gv_Mod_ends hC d_Mod_next_86 fl_Mod_225  ?_
    try simp only [mU_3, mU_4, mU_5, mU_6, mU_7, mU_b, mU_w4, mU_w5, mU_w6, mU_w7, bA_mU]
    refine cv_Mod1 hC d_Mod_next_89 (c_Mod_byteAt hl hc (by omega)) mi_Mod_byteAt ml_Mod_231 im_Mod_byteAt se_Mod_byteAt rfl ⟨Nat.le_of_ble_eq_true rfl, Nat.le_of_ble_eq_true rfl⟩ ⟨Nat.le_of_ble_eq_true rfl, Nat.le_of_ble_eq_true rfl⟩ rfl rfl (Nat.le_of_ble_eq_true rfl)  ?_
    try simp only [mU_3, mU_4, mU_5, mU_6, mU_7, mU_b, mU_w4, mU_w5, mU_w6, mU_w7, bA_mU]
    rw [bA_lt hil]
    refine ev_bipush (v := 97) rfl hC d_Mod_next_92 ?_
    refine ev_bipush (v := 122) rfl hC d_Mod_next_94 ?_
    refine cs_1 hC d_Mod_next_96 (c_Mod_within ) mi_Mod_within ml_Mod_68 sm_Mod_within ⟨Nat.le_of_ble_eq_true rfl, Nat.le_of_ble_eq_true rfl⟩ ⟨Nat.le_of_ble_eq_true rfl, Nat.le_of_ble_eq_true rfl⟩ rfl rfl (Nat.le_of_ble_eq_true rfl) ?_
    refine en_eq 206 hC d_Mod_next_99 rfl (fun h_99 => ?_) (fun h_99 => ?_)
    · rw [run, ltr_f h_99, cond_false] at he
      exact he
    · refine ev_aload_n rfl hC d_Mod_next_102 ?_
      refine ev_dup rfl hC d_Mod_next_103 ?_
      refine gv_Mod_ends hC d_Mod_next_104 fl_Mod_225  ?_
      try simp only [mU_3, mU_4, mU_5, mU_6, mU_7, mU_b, mU_w4, mU_w5, mU_w6, mU_w7, bA_mU]
      refine ev_iconst (v := 1) rfl hC d_Mod_next_107 ?_
      refine ev_iadd hC d_Mod_next_108 ?_
      rw [nI_1]
      refine pv_Mod_ends hC d_Mod_next_109 fl_Mod_225  ?_
      try simp only [mU_3, mU_4, mU_5, mU_6, mU_7, mU_b, mU_w4, mU_w5, mU_w6, mU_w7, bA_mU]
      refine ev_goto 84 hC d_Mod_next_112 rfl ?_
      exact ih (i + 1) M (by omega) hc (by rw [run, ltr_t h_99, cond_true] at he; exact he)

set_option maxHeartbeats 4000000 in
set_option maxRecDepth 10000 in
theorem lp_next3 {G : ex_G} {C : ex_C} {l : Nat} {pl so cc : Int32} (hl : l ≤ 120) (hC : Cx G C Y_Mod_next { frames := 1, cells := 0, slots := 0, locals := 22 }) :
    ∀ (m i : Nat) (M : ex_M) (v : Int32), i + m = l → M.1 14 3 = nI l → Ev G C Y_Mod_next 206 [some (.ref (ex_b G + 71)), some (.int cc)] [] 0 0 (ce G (mU M pl (nI (dig (M.1 15) m i v).1) so (dig (M.1 15) m i v).2)) → Ev G C Y_Mod_next 131 [some (.ref (ex_b G + 71)), some (.int cc)] [] 0 0 (ce G (mU M pl (nI i) so v)) := by
  intro m
  induction m with
  | zero =>
    intro i M v hm hc he
    try simp only [mU_3, mU_4, mU_5, mU_6, mU_7, mU_b, mU_w4, mU_w5, mU_w6, mU_w7, bA_mU]
    refine ev_aload_n rfl hC d_Mod_next_131 ?_
    refine ev_aload_n rfl hC d_Mod_next_132 ?_
    refine gv_Mod_ends hC d_Mod_next_133 fl_Mod_225  ?_
    try simp only [mU_3, mU_4, mU_5, mU_6, mU_7, mU_b, mU_w4, mU_w5, mU_w6, mU_w7, bA_mU]
    refine cv_Mod1 hC d_Mod_next_136 (c_Mod_byteAt hl hc (by omega)) mi_Mod_byteAt ml_Mod_231 im_Mod_byteAt se_Mod_byteAt rfl ⟨Nat.le_of_ble_eq_true rfl, Nat.le_of_ble_eq_true rfl⟩ ⟨Nat.le_of_ble_eq_true rfl, Nat.le_of_ble_eq_true rfl⟩ rfl rfl (Nat.le_of_ble_eq_true rfl)  ?_
    try simp only [mU_3, mU_4, mU_5, mU_6, mU_7, mU_b, mU_w4, mU_w5, mU_w6, mU_w7, bA_mU]
    refine ev_bipush (v := 48) rfl hC d_Mod_next_139 ?_
    refine ev_bipush (v := 57) rfl hC d_Mod_next_141 ?_
    refine cs_1 hC d_Mod_next_143 (c_Mod_within ) mi_Mod_within ml_Mod_68 sm_Mod_within ⟨Nat.le_of_ble_eq_true rfl, Nat.le_of_ble_eq_true rfl⟩ ⟨Nat.le_of_ble_eq_true rfl, Nat.le_of_ble_eq_true rfl⟩ rfl rfl (Nat.le_of_ble_eq_true rfl) ?_
    refine en_eq 206 hC d_Mod_next_146 rfl (fun _ => ?_) (fun h => absurd h (by rw [bA_ge (by omega)]; decide))
    exact he
  | succ m ih =>
    intro i M v hm hc he
    have hil : ¬ l ≤ i := by omega
    try simp only [mU_3, mU_4, mU_5, mU_6, mU_7, mU_b, mU_w4, mU_w5, mU_w6, mU_w7, bA_mU]
    refine ev_aload_n rfl hC d_Mod_next_131 ?_
    refine ev_aload_n rfl hC d_Mod_next_132 ?_
    refine gv_Mod_ends hC d_Mod_next_133 fl_Mod_225  ?_
    try simp only [mU_3, mU_4, mU_5, mU_6, mU_7, mU_b, mU_w4, mU_w5, mU_w6, mU_w7, bA_mU]
    refine cv_Mod1 hC d_Mod_next_136 (c_Mod_byteAt hl hc (by omega)) mi_Mod_byteAt ml_Mod_231 im_Mod_byteAt se_Mod_byteAt rfl ⟨Nat.le_of_ble_eq_true rfl, Nat.le_of_ble_eq_true rfl⟩ ⟨Nat.le_of_ble_eq_true rfl, Nat.le_of_ble_eq_true rfl⟩ rfl rfl (Nat.le_of_ble_eq_true rfl)  ?_
    try simp only [mU_3, mU_4, mU_5, mU_6, mU_7, mU_b, mU_w4, mU_w5, mU_w6, mU_w7, bA_mU]
    rw [bA_lt hil]
    refine ev_bipush (v := 48) rfl hC d_Mod_next_139 ?_
    refine ev_bipush (v := 57) rfl hC d_Mod_next_141 ?_
    refine cs_1 hC d_Mod_next_143 (c_Mod_within ) mi_Mod_within ml_Mod_68 sm_Mod_within ⟨Nat.le_of_ble_eq_true rfl, Nat.le_of_ble_eq_true rfl⟩ ⟨Nat.le_of_ble_eq_true rfl, Nat.le_of_ble_eq_true rfl⟩ rfl rfl (Nat.le_of_ble_eq_true rfl) ?_
    refine en_eq 206 hC d_Mod_next_146 rfl (fun h_146 => ?_) (fun h_146 => ?_)
    · rw [dig, dgt_f h_146, cond_false] at he
      exact he
    · refine ev_aload_n rfl hC d_Mod_next_149 ?_
      refine ev_sipush (v := 10000) rfl hC d_Mod_next_150 ?_
      refine ev_bipush (v := 10) rfl hC d_Mod_next_153 ?_
      refine ev_aload_n rfl hC d_Mod_next_155 ?_
      refine gv_Mod_value hC d_Mod_next_156 fl_Mod_234  ?_
      try simp only [mU_3, mU_4, mU_5, mU_6, mU_7, mU_b, mU_w4, mU_w5, mU_w6, mU_w7, bA_mU]
      refine ev_imul hC d_Mod_next_159 ?_
      refine ev_aload_n rfl hC d_Mod_next_160 ?_
      refine ev_aload_n rfl hC d_Mod_next_161 ?_
      refine gv_Mod_ends hC d_Mod_next_162 fl_Mod_225  ?_
      try simp only [mU_3, mU_4, mU_5, mU_6, mU_7, mU_b, mU_w4, mU_w5, mU_w6, mU_w7, bA_mU]
      refine cv_Mod1 hC d_Mod_next_165 (c_Mod_byteAt hl hc (by omega)) mi_Mod_byteAt ml_Mod_231 im_Mod_byteAt se_Mod_byteAt rfl ⟨Nat.le_of_ble_eq_true rfl, Nat.le_of_ble_eq_true rfl⟩ ⟨Nat.le_of_ble_eq_true rfl, Nat.le_of_ble_eq_true rfl⟩ rfl rfl (Nat.le_of_ble_eq_true rfl)  ?_
      try simp only [mU_3, mU_4, mU_5, mU_6, mU_7, mU_b, mU_w4, mU_w5, mU_w6, mU_w7, bA_mU]
      rw [bA_lt hil]
      refine ev_iadd hC d_Mod_next_168 ?_
      refine ev_bipush (v := 48) rfl hC d_Mod_next_169 ?_
      refine ev_isub hC d_Mod_next_171 ?_
      refine cs_1 hC d_Mod_next_172 (c_Math_min ) mi_Math_min ml_Mod_139 sm_Math_min ⟨Nat.le_of_ble_eq_true rfl, Nat.le_of_ble_eq_true rfl⟩ ⟨Nat.le_of_ble_eq_true rfl, Nat.le_of_ble_eq_true rfl⟩ rfl rfl (Nat.le_of_ble_eq_true rfl) ?_
      rw [mn4_eq]
      refine pv_Mod_value hC d_Mod_next_175 fl_Mod_234  ?_
      try simp only [mU_3, mU_4, mU_5, mU_6, mU_7, mU_b, mU_w4, mU_w5, mU_w6, mU_w7, bA_mU]
      refine ev_aload_n rfl hC d_Mod_next_178 ?_
      refine ev_dup rfl hC d_Mod_next_179 ?_
      refine gv_Mod_ends hC d_Mod_next_180 fl_Mod_225  ?_
      try simp only [mU_3, mU_4, mU_5, mU_6, mU_7, mU_b, mU_w4, mU_w5, mU_w6, mU_w7, bA_mU]
      refine ev_iconst (v := 1) rfl hC d_Mod_next_183 ?_
      refine ev_iadd hC d_Mod_next_184 ?_
      rw [nI_1]
      refine pv_Mod_ends hC d_Mod_next_185 fl_Mod_225  ?_
      try simp only [mU_3, mU_4, mU_5, mU_6, mU_7, mU_b, mU_w4, mU_w5, mU_w6, mU_w7, bA_mU]
      refine ev_goto 131 hC d_Mod_next_188 rfl ?_
      exact ih (i + 1) M _ (by omega) hc (by rw [dig, dgt_t h_146, cond_true] at he; exact he)

set_option maxHeartbeats 2000000 in
set_option maxRecDepth 10000 in
theorem c_Mod_next {G : ex_G} {M : ex_M} {l b : Nat} (hl : l ≤ 120) (hb : b ≤ l) (hc : M.1 14 3 = nI l) (he : M.1 14 5 = nI b) (hy : ∀ j, j < l → ¬ M.1 15 j < 0) : Con G Y_Mod_next 1 22 0 0 [.ref (ex_b G + 71)] (ce G M) (none) (ce G (nxC M l b)) := by
  refine Con.ofF (plainFor_of_name (by decide +kernel)) (Nat.le_of_ble_eq_true rfl) (fun C hC hR => ?_)
  show Ev G C Y_Mod_next 0 [some (.ref (ex_b G + 71))] [] 0 0 (ce G M)
  refine ev_aload_n rfl hC d_Mod_next_0 ?_
  refine ev_aload_n rfl hC d_Mod_next_1 ?_
  refine gv_Mod_ends hC d_Mod_next_2 fl_Mod_225  ?_
  refine pv_Mod_begins hC d_Mod_next_5 fl_Mod_228  ?_
  refine Ev.to (lp_next1 hl hC (l - b) b M (by omega) hc ?_) rfl rfl (congrArg (ce G) (mU_st he))
  generalize hp : run spc (M.1 15) (l - b) b = p
  have hpl : p ≤ l := by have := run_le (q := spc) (t := M.1 15) (l - b) b; omega
  rw [show nxC M l b = nxP l p M by rw [nxC, hp]] at hR
  refine ev_aload_n rfl hC d_Mod_next_34 ?_
  refine ev_aload_n rfl hC d_Mod_next_35 ?_
  refine gv_Mod_begins hC d_Mod_next_36 fl_Mod_228  ?_
  try simp only [mU_3, mU_4, mU_5, mU_6, mU_7, mU_b, mU_w4, mU_w5, mU_w6, mU_w7, bA_mU]
  refine cv_Mod1 hC d_Mod_next_39 (c_Mod_byteAt hl hc hpl) mi_Mod_byteAt ml_Mod_231 im_Mod_byteAt se_Mod_byteAt rfl ⟨Nat.le_of_ble_eq_true rfl, Nat.le_of_ble_eq_true rfl⟩ ⟨Nat.le_of_ble_eq_true rfl, Nat.le_of_ble_eq_true rfl⟩ rfl rfl (Nat.le_of_ble_eq_true rfl)  ?_
  try simp only [mU_3, mU_4, mU_5, mU_6, mU_7, mU_b, mU_w4, mU_w5, mU_w6, mU_w7, bA_mU]
  refine ev_istore_n (by decide) hC d_Mod_next_42 ?_
  refine ev_aload_n rfl hC d_Mod_next_43 ?_
  refine ev_aload_n rfl hC d_Mod_next_44 ?_
  refine gv_Mod_begins hC d_Mod_next_45 fl_Mod_228  ?_
  try simp only [mU_3, mU_4, mU_5, mU_6, mU_7, mU_b, mU_w4, mU_w5, mU_w6, mU_w7, bA_mU]
  refine pv_Mod_ends hC d_Mod_next_48 fl_Mod_225  ?_
  try simp only [mU_3, mU_4, mU_5, mU_6, mU_7, mU_b, mU_w4, mU_w5, mU_w6, mU_w7, bA_mU]
  refine ev_aload_n rfl hC d_Mod_next_51 ?_
  refine ev_iconst (v := 0) rfl hC d_Mod_next_52 ?_
  refine pv_Mod_value hC d_Mod_next_53 fl_Mod_234  ?_
  try simp only [mU_3, mU_4, mU_5, mU_6, mU_7, mU_b, mU_w4, mU_w5, mU_w6, mU_w7, bA_mU]
  refine ev_iload_n rfl hC d_Mod_next_56 ?_
  refine ev_if_ge 68 hC d_Mod_next_57 rfl (fun h_57 => ?_) (fun h_57 => ?_)
  · have hlp : ¬ l ≤ p := fun z => absurd h_57 (by rw [bA_ge z]; decide)
    rw [bA_lt hlp]
    refine ev_iload_n rfl hC d_Mod_next_68 ?_
    refine ev_bipush (v := 97) rfl hC d_Mod_next_69 ?_
    refine ev_bipush (v := 122) rfl hC d_Mod_next_71 ?_
    refine cs_1 hC d_Mod_next_73 (c_Mod_within ) mi_Mod_within ml_Mod_68 sm_Mod_within ⟨Nat.le_of_ble_eq_true rfl, Nat.le_of_ble_eq_true rfl⟩ ⟨Nat.le_of_ble_eq_true rfl, Nat.le_of_ble_eq_true rfl⟩ rfl rfl (Nat.le_of_ble_eq_true rfl) ?_
    refine en_eq 115 hC d_Mod_next_76 rfl (fun h_76 => ?_) (fun h_76 => ?_)
    · refine ev_iload_n rfl hC d_Mod_next_115 ?_
      refine ev_bipush (v := 48) rfl hC d_Mod_next_116 ?_
      refine ev_bipush (v := 57) rfl hC d_Mod_next_118 ?_
      refine cs_1 hC d_Mod_next_120 (c_Mod_within ) mi_Mod_within ml_Mod_68 sm_Mod_within ⟨Nat.le_of_ble_eq_true rfl, Nat.le_of_ble_eq_true rfl⟩ ⟨Nat.le_of_ble_eq_true rfl, Nat.le_of_ble_eq_true rfl⟩ rfl rfl (Nat.le_of_ble_eq_true rfl) ?_
      refine en_eq 191 hC d_Mod_next_123 rfl (fun h_123 => ?_) (fun h_123 => ?_)
      · refine ev_aload_n rfl hC d_Mod_next_191 ?_
        refine ev_iconst (v := 3) rfl hC d_Mod_next_192 ?_
        refine pv_Mod_sort hC d_Mod_next_193 fl_Mod_237  ?_
        try simp only [mU_3, mU_4, mU_5, mU_6, mU_7, mU_b, mU_w4, mU_w5, mU_w6, mU_w7, bA_mU]
        refine ev_aload_n rfl hC d_Mod_next_196 ?_
        refine ev_dup rfl hC d_Mod_next_197 ?_
        refine gv_Mod_ends hC d_Mod_next_198 fl_Mod_225  ?_
        try simp only [mU_3, mU_4, mU_5, mU_6, mU_7, mU_b, mU_w4, mU_w5, mU_w6, mU_w7, bA_mU]
        refine ev_iconst (v := 1) rfl hC d_Mod_next_201 ?_
        refine ev_iadd hC d_Mod_next_202 ?_
        rw [nI_1]
        refine pv_Mod_ends hC d_Mod_next_203 fl_Mod_225  ?_
        try simp only [mU_3, mU_4, mU_5, mU_6, mU_7, mU_b, mU_w4, mU_w5, mU_w6, mU_w7, bA_mU]
        exact ev_vret hC hR d_Mod_next_206 rfl rfl (by rw [nxP, if_neg hlp]; simp only [ltr_f h_76, dgt_f h_123, cond_false])
      · refine ev_aload_n rfl hC d_Mod_next_126 ?_
        refine ev_iconst (v := 2) rfl hC d_Mod_next_127 ?_
        refine pv_Mod_sort hC d_Mod_next_128 fl_Mod_237  ?_
        simp only [mU_3, mU_4, mU_5, mU_6, mU_7, mU_b, mU_w4, mU_w5, mU_w6, mU_w7, bA_mU]
        refine lp_next3 hl hC (l - p) p M 0 (by omega) hc ?_
        exact ev_vret hC hR d_Mod_next_206 rfl rfl (by rw [nxP, if_neg hlp]; simp only [ltr_f h_76, dgt_t h_123, cond_false, cond_true])
    · refine ev_aload_n rfl hC d_Mod_next_79 ?_
      refine ev_iconst (v := 1) rfl hC d_Mod_next_80 ?_
      refine pv_Mod_sort hC d_Mod_next_81 fl_Mod_237  ?_
      simp only [mU_3, mU_4, mU_5, mU_6, mU_7, mU_b, mU_w4, mU_w5, mU_w6, mU_w7, bA_mU]
      refine lp_next2 hl hC (l - p) p M (by omega) hc ?_
      exact ev_vret hC hR d_Mod_next_206 rfl rfl (by rw [nxP, if_neg hlp]; simp only [ltr_t h_76, cond_true])
  · have hlp : l ≤ p := by
      rcases Nat.lt_or_ge p l with z | z
      · exact absurd (by rw [bA_lt (by omega)]; exact Int32.not_lt.mp (hy p z)) h_57
      · exact z
    refine ev_aload_n rfl hC d_Mod_next_60 ?_
    refine ev_iconst (v := 0) rfl hC d_Mod_next_61 ?_
    refine pv_Mod_sort hC d_Mod_next_62 fl_Mod_237  ?_
    try simp only [mU_3, mU_4, mU_5, mU_6, mU_7, mU_b, mU_w4, mU_w5, mU_w6, mU_w7, bA_mU]
    refine ev_goto 206 hC d_Mod_next_65 rfl ?_
    try simp only [mU_3, mU_4, mU_5, mU_6, mU_7, mU_b, mU_w4, mU_w5, mU_w6, mU_w7, bA_mU]
    exact ev_vret hC hR d_Mod_next_206 rfl rfl (by rw [nxP, if_pos hlp])
