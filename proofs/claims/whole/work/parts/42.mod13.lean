/-! the reference's copying, by what is moved -/
def mvA (s0 k : Nat) (a b : Nat → Int64) : Nat → Int64 := fun j => if j < k then a (s0 + j) else b j
def mvB (t0 k : Nat) (a b : Nat → Int64) : Nat → Int64 := fun j => if t0 ≤ j ∧ j < t0 + k then a (j - t0) else b j
theorem mvA_0 (s0 : Nat) (a b : Nat → Int64) : mvA s0 0 a b = b := by funext j; unfold mvA; rw [if_neg (by omega)]
theorem mvB_0 (t0 : Nat) (a b : Nat → Int64) : mvB t0 0 a b = b := by funext j; unfold mvB; rw [if_neg (by omega)]
theorem mvA_s (s0 k : Nat) (a b : Nat → Int64) : vp_updL (mvA s0 k a b) k (a (s0 + k)) = mvA s0 (k + 1) a b := by
  funext j
  simp only [vp_updL, mvA]
  by_cases h : j = k
  · rw [if_pos h, if_pos (by omega), h]
  · rw [if_neg h]
    by_cases h2 : j < k
    · rw [if_pos h2, if_pos (by omega)]
    · rw [if_neg h2, if_neg (by omega)]
theorem mvB_s (t0 k : Nat) (a b : Nat → Int64) : vp_updL (mvB t0 k a b) (t0 + k) (a k) = mvB t0 (k + 1) a b := by
  funext j
  simp only [vp_updL, mvB]
  by_cases h : j = t0 + k
  · rw [if_pos h, if_pos (by omega), h, show t0 + k - t0 = k by omega]
  · rw [if_neg h]
    by_cases h2 : t0 ≤ j ∧ j < t0 + k
    · rw [if_pos h2, if_pos (by omega)]
    · rw [if_neg h2, if_neg (by omega)]
theorem mL_id (M : ex_M) (r : Nat) : mL M r (M.2 r) = M := by simp only [mL, wr_id]
def cpR (M : ex_M) (s f t o n : Nat) : ex_M := mL (mL M 5 (mvA (40 * s + f) n (M.2 4) (M.2 5))) 4 (mvB (40 * t + o) n (mvA (40 * s + f) n (M.2 4) (M.2 5)) (M.2 4))
def holdsR (len f n : Int32) : Bool := !decide (len.toInt64 < f.toInt64 + n.toInt64)
def okR (ls lt f o n : Int32) : Bool := !decide (f < 0) && (!decide (o < 0) && (!decide (n < 0) && (holdsR ls f n && holdsR lt o n)))
def R_copy (M : ex_M) (s f t o n : Int32) : Int32 × ex_M := bif out s 0 3 || out t 0 3 then rbad M 0 else
  bif decide (M.1 17 (ix s) = 0) || decide (M.1 17 (ix t) = 0) then rbad M 5 else
  if M.1 17 (ix s) = M.1 17 (ix t) then (bif okR (M.1 18 (ix s)) (M.1 18 (ix t)) f o n then (n, cpR M (ix s) (ix f) (ix t) (ix o) (ix n)) else rbad M 0) else rbad M 2
theorem le64 {a k l : Nat} (ha : a < 2 ^ 31) (hk : k < 2 ^ 31) (hl : l ≤ 40) (h : ¬ (nI l).toInt64 < (nI a).toInt64 + (nI k).toInt64) : a + k ≤ l := by
  rw [Int64.lt_iff_toInt_lt, Int64.toInt_add, Int32.toInt_toInt64, Int32.toInt_toInt64, Int32.toInt_toInt64, nI_toInt ha, nI_toInt hk, nI_toInt (by omega)] at h
  rw [Int.bmod_eq_of_le (by omega) (by omega)] at h
  omega

set_option maxHeartbeats 4000000 in
set_option maxRecDepth 10000 in
theorem lp_Mod_copy2 {G : ex_G} {C : ex_C} {rr : Option Value} {ee : List va_E} {s f t o n : Nat} {w : Nat → Int64} (hs : s < 4) (ht : t < 4) (hf : f + n ≤ 40) (ho : o + n ≤ 40) (hC : Cx G C Y_Mod_copy { frames := 2, cells := 0, slots := 0, locals := 42 }) (hR : Cr G C Y_Mod_copy 0 0 rr ee) :
    ∀ (m i : Nat) (M : ex_M), i + m = n → M.2 4 = mvB (40 * t + o) i (M.2 5) w → rr = some (.int (nI n)) ∧ ee = ce G (mL M 4 (mvB (40 * t + o) n (M.2 5) w)) → Ev G C Y_Mod_copy 165 [some (.ref (ex_b G + 71)), some (.int (nI s)), some (.int (nI f)), some (.int (nI t)), some (.int (nI o)), some (.int (nI n)), some (.int (nI i))] [] 0 0 (ce G (M)) := by
  intro m
  induction m with
  | zero =>
    intro i M hm hc he
    refine ev_iload rfl hC d_Mod_copy_165 ?_
    refine ev_iload rfl hC d_Mod_copy_167 ?_
    refine ev_icmp_ge 200 hC d_Mod_copy_169 rfl (fun _ => ?_) (fun h => absurd (nI_le (by omega) (by omega)) h)
    refine ev_iload rfl hC d_Mod_copy_200 ?_
    exact ev_iret hC hR d_Mod_copy_202 rfl (he.1) (by rw [he.2, show mvB (40 * t + o) n (M.2 5) w = M.2 4 by rw [hc, show i = n by omega], mL_id])
  | succ m ih =>
    intro i M hm hc he
    skip
    refine ev_iload rfl hC d_Mod_copy_165 ?_
    refine ev_iload rfl hC d_Mod_copy_167 ?_
    refine ev_icmp_ge 200 hC d_Mod_copy_169 rfl (fun h => absurd h (nI_ge (by omega) (by omega))) (fun _ => ?_)
    refine ev_aload_n rfl hC d_Mod_copy_172 ?_
    refine gv_Mod_numbers hC d_Mod_copy_173 fl_Mod_56  ?_
    refine ev_bipush (v := nI 40) rfl hC d_Mod_copy_176 ?_
    refine ev_iload_n rfl hC d_Mod_copy_178 ?_
    refine ev_imul hC d_Mod_copy_179 ?_
    refine ev_iload rfl hC d_Mod_copy_180 ?_
    refine ev_iadd hC d_Mod_copy_182 ?_
    refine ev_iload rfl hC d_Mod_copy_183 ?_
    refine ev_iadd hC d_Mod_copy_185 ?_
    rw [pk_mul, nI_add, nI_add]
    refine ev_aload_n rfl hC d_Mod_copy_186 ?_
    refine gv_Mod_moved hC d_Mod_copy_187 fl_Mod_60  ?_
    refine ev_iload rfl hC d_Mod_copy_190 ?_
    refine ga_moved hC d_Mod_copy_192 (by first | assumption | omega) ?_
    refine pa_numbers hC d_Mod_copy_193 (by first | assumption | omega) ?_
    refine ev_iinc rfl (by decide) (nI_1 _) hC d_Mod_copy_194 ?_
    refine ev_goto 165 hC d_Mod_copy_197 rfl ?_
    refine ih (i + 1) _ (by omega) (by simp only [mL, wr_s]; rw [wr_n (by decide), hc, mvB_s]) ?_
    rw [he.1, he.2]
    simp only [mL, wr_wr]
    rw [wr_n (by decide)]
    exact ⟨trivial, rfl⟩

set_option maxHeartbeats 4000000 in
set_option maxRecDepth 10000 in
theorem lp_Mod_copy1 {G : ex_G} {C : ex_C} {rr : Option Value} {ee : List va_E} {s f t o n : Nat} {w : Nat → Int64} (hs : s < 4) (ht : t < 4) (hf : f + n ≤ 40) (ho : o + n ≤ 40) (hC : Cx G C Y_Mod_copy { frames := 2, cells := 0, slots := 0, locals := 42 }) (hR : Cr G C Y_Mod_copy 0 0 rr ee) :
    ∀ (m i : Nat) (M : ex_M), i + m = n → M.2 5 = mvA (40 * s + f) i (M.2 4) w → rr = some (.int (nI n)) ∧ ee = ce G (mL (mL M 5 (mvA (40 * s + f) n (M.2 4) w)) 4 (mvB (40 * t + o) n (mvA (40 * s + f) n (M.2 4) w) (M.2 4))) → Ev G C Y_Mod_copy 128 [some (.ref (ex_b G + 71)), some (.int (nI s)), some (.int (nI f)), some (.int (nI t)), some (.int (nI o)), some (.int (nI n)), some (.int (nI i))] [] 0 0 (ce G (M)) := by
  intro m
  induction m with
  | zero =>
    intro i M hm hc he
    refine ev_iload rfl hC d_Mod_copy_128 ?_
    refine ev_iload rfl hC d_Mod_copy_130 ?_
    refine ev_icmp_ge 162 hC d_Mod_copy_132 rfl (fun _ => ?_) (fun h => absurd (nI_le (by omega) (by omega)) h)
    refine ev_iconst (v := nI 0) rfl hC d_Mod_copy_162 ?_
    refine ev_istore (by decide) hC d_Mod_copy_163 ?_
    refine lp_Mod_copy2 (w := M.2 4) hs ht hf ho hC hR n 0 M (by omega) (by rw [mvB_0]) ?_
    rw [he.1, he.2, show mvA (40 * s + f) n (M.2 4) w = M.2 5 by rw [hc, show i = n by omega], mL_id]
    exact ⟨rfl, rfl⟩
  | succ m ih =>
    intro i M hm hc he
    skip
    refine ev_iload rfl hC d_Mod_copy_128 ?_
    refine ev_iload rfl hC d_Mod_copy_130 ?_
    refine ev_icmp_ge 162 hC d_Mod_copy_132 rfl (fun h => absurd h (nI_ge (by omega) (by omega))) (fun _ => ?_)
    refine ev_aload_n rfl hC d_Mod_copy_135 ?_
    refine gv_Mod_moved hC d_Mod_copy_136 fl_Mod_60  ?_
    refine ev_iload rfl hC d_Mod_copy_139 ?_
    refine ev_aload_n rfl hC d_Mod_copy_141 ?_
    refine gv_Mod_numbers hC d_Mod_copy_142 fl_Mod_56  ?_
    refine ev_bipush (v := nI 40) rfl hC d_Mod_copy_145 ?_
    refine ev_iload_n rfl hC d_Mod_copy_147 ?_
    refine ev_imul hC d_Mod_copy_148 ?_
    refine ev_iload_n rfl hC d_Mod_copy_149 ?_
    refine ev_iadd hC d_Mod_copy_150 ?_
    refine ev_iload rfl hC d_Mod_copy_151 ?_
    refine ev_iadd hC d_Mod_copy_153 ?_
    rw [pk_mul, nI_add, nI_add]
    refine ga_numbers hC d_Mod_copy_154 (by first | assumption | omega) ?_
    refine pa_moved hC d_Mod_copy_155 (by first | assumption | omega) ?_
    refine ev_iinc rfl (by decide) (nI_1 _) hC d_Mod_copy_156 ?_
    refine ev_goto 128 hC d_Mod_copy_159 rfl ?_
    refine ih (i + 1) _ (by omega) (by simp only [mL, wr_s]; rw [wr_n (by decide), hc, mvA_s]) ?_
    rw [he.1, he.2]
    simp only [mL, wr_wr]
    rw [wr_n (show (4 : Nat) ≠ 5 by decide)]
    exact ⟨trivial, rfl⟩

set_option maxHeartbeats 2000000 in
set_option maxRecDepth 10000 in
theorem c_Mod_copy {G : ex_G} {M : ex_M} {x f y o n : Int32} (ws : WR4 (M.1 18)) : Con G Y_Mod_copy 2 42 0 0 [.ref (ex_b G + 71), .int x, .int f, .int y, .int o, .int n] (ce G M) (some (.int (R_copy M x f y o n).1)) (ce G ((R_copy M x f y o n).2)) := by
  refine Con.ofF (plainFor_of_name (by decide +kernel)) (Nat.le_of_ble_eq_true rfl) (fun C hC hR => ?_)
  show Ev G C Y_Mod_copy 0 [some (.ref (ex_b G + 71)), some (.int x), some (.int f), some (.int y), some (.int o), some (.int n)] [] 0 0 (ce G M)
  refine ev_iload_n rfl hC d_Mod_copy_0 ?_
  refine cs_1 hC d_Mod_copy_1 (c_Mod_isSheet ) mi_Mod_isSheet ml_Mod_305 sm_Mod_isSheet ⟨Nat.le_of_ble_eq_true rfl, Nat.le_of_ble_eq_true rfl⟩ ⟨Nat.le_of_ble_eq_true rfl, Nat.le_of_ble_eq_true rfl⟩ rfl rfl (Nat.le_of_ble_eq_true rfl) ?_
  refine en_eq 14 hC d_Mod_copy_4 rfl (fun h_4 => ?_) (fun h_4 => ?_)
  · refine ev_aload_n rfl hC d_Mod_copy_14 ?_
    refine ev_ldc kc_Mod_63 hC d_Mod_copy_15 ?_
    refine cv_Mod1 hC d_Mod_copy_17 (c_Mod_finding (k := 0) (by omega) (by decide +kernel)) mi_Mod_finding ml_Mod_82 im_Mod_finding se_Mod_finding rfl ⟨Nat.le_of_ble_eq_true rfl, Nat.le_of_ble_eq_true rfl⟩ ⟨Nat.le_of_ble_eq_true rfl, Nat.le_of_ble_eq_true rfl⟩ rfl rfl (Nat.le_of_ble_eq_true rfl)  ?_
    exact ev_iret hC hR d_Mod_copy_20 rfl (by simp only [R_copy, rbad, okR, h_4, if_true, if_false, cond_true, cond_false, decide_true, decide_false, Bool.not_true, Bool.not_false, Bool.or_true, Bool.true_or, Bool.or_false, Bool.false_or, Bool.and_true, Bool.and_false, Bool.true_and, Bool.false_and, Bool.or_self, Bool.and_self, eq_self] <;> rfl) (by simp only [R_copy, rbad, okR, h_4, if_true, if_false, cond_true, cond_false, decide_true, decide_false, Bool.not_true, Bool.not_false, Bool.or_true, Bool.true_or, Bool.or_false, Bool.false_or, Bool.and_true, Bool.and_false, Bool.true_and, Bool.false_and, Bool.or_self, Bool.and_self, eq_self] <;> rfl)
  · refine ev_iload_n rfl hC d_Mod_copy_7 ?_
    refine cs_1 hC d_Mod_copy_8 (c_Mod_isSheet ) mi_Mod_isSheet ml_Mod_305 sm_Mod_isSheet ⟨Nat.le_of_ble_eq_true rfl, Nat.le_of_ble_eq_true rfl⟩ ⟨Nat.le_of_ble_eq_true rfl, Nat.le_of_ble_eq_true rfl⟩ rfl rfl (Nat.le_of_ble_eq_true rfl) ?_
    refine en_ne 21 hC d_Mod_copy_11 rfl (fun h_11 => ?_) (fun h_11 => ?_)
    · obtain ⟨s, hs, rfl⟩ := out_nat (n := 3) (by decide) h_4
      have cs : (nI s).toNatClampNeg = s := nI_clamp (by omega)
      obtain ⟨t, ht, rfl⟩ := out_nat (n := 3) (by decide) h_11
      have ct : (nI t).toNatClampNeg = t := nI_clamp (by omega)
      have hs : s < 4 := by omega
      have ht : t < 4 := by omega
      obtain ⟨l, hl, el⟩ := ws s hs
      obtain ⟨l2, hl2, el2⟩ := ws t ht
      refine ev_aload_n rfl hC d_Mod_copy_21 ?_
      refine gv_Mod_widths hC d_Mod_copy_22 fl_Mod_50  ?_
      refine ev_iload_n rfl hC d_Mod_copy_25 ?_
      refine ga_widths hC d_Mod_copy_26 (by first | assumption | omega) ?_
      refine ev_if_eq 39 hC d_Mod_copy_27 rfl (fun h_27 => ?_) (fun h_27 => ?_)
      · refine ev_aload_n rfl hC d_Mod_copy_39 ?_
        refine ev_ldcw kc_Mod_309 hC d_Mod_copy_40 ?_
        refine cv_Mod1 hC d_Mod_copy_43 (c_Mod_finding (k := 5) (by omega) (by decide +kernel)) mi_Mod_finding ml_Mod_82 im_Mod_finding se_Mod_finding rfl ⟨Nat.le_of_ble_eq_true rfl, Nat.le_of_ble_eq_true rfl⟩ ⟨Nat.le_of_ble_eq_true rfl, Nat.le_of_ble_eq_true rfl⟩ rfl rfl (Nat.le_of_ble_eq_true rfl)  ?_
        exact ev_iret hC hR d_Mod_copy_46 rfl (by simp only [R_copy, rbad, okR, h_4, h_11, h_27, ix, cs, ct, if_true, if_false, cond_true, cond_false, decide_true, decide_false, Bool.not_true, Bool.not_false, Bool.or_true, Bool.true_or, Bool.or_false, Bool.false_or, Bool.and_true, Bool.and_false, Bool.true_and, Bool.false_and, Bool.or_self, Bool.and_self, eq_self] <;> rfl) (by simp only [R_copy, rbad, okR, h_4, h_11, h_27, ix, cs, ct, if_true, if_false, cond_true, cond_false, decide_true, decide_false, Bool.not_true, Bool.not_false, Bool.or_true, Bool.true_or, Bool.or_false, Bool.false_or, Bool.and_true, Bool.and_false, Bool.true_and, Bool.false_and, Bool.or_self, Bool.and_self, eq_self] <;> rfl)
      · refine ev_aload_n rfl hC d_Mod_copy_30 ?_
        refine gv_Mod_widths hC d_Mod_copy_31 fl_Mod_50  ?_
        refine ev_iload_n rfl hC d_Mod_copy_34 ?_
        refine ga_widths hC d_Mod_copy_35 (by first | assumption | omega) ?_
        refine ev_if_ne 47 hC d_Mod_copy_36 rfl (fun h_36 => ?_) (fun h_36 => ?_)
        · refine ev_aload_n rfl hC d_Mod_copy_47 ?_
          refine gv_Mod_widths hC d_Mod_copy_48 fl_Mod_50  ?_
          refine ev_iload_n rfl hC d_Mod_copy_51 ?_
          refine ga_widths hC d_Mod_copy_52 (by first | assumption | omega) ?_
          refine ev_aload_n rfl hC d_Mod_copy_53 ?_
          refine gv_Mod_widths hC d_Mod_copy_54 fl_Mod_50  ?_
          refine ev_iload_n rfl hC d_Mod_copy_57 ?_
          refine ga_widths hC d_Mod_copy_58 (by first | assumption | omega) ?_
          refine ev_icmp_eq 69 hC d_Mod_copy_59 rfl (fun h_59 => ?_) (fun h_59 => ?_)
          · refine ev_iload_n rfl hC d_Mod_copy_69 ?_
            refine ev_if_lt 118 hC d_Mod_copy_70 rfl (fun h_70 => ?_) (fun h_70 => ?_)
            · refine ev_aload_n rfl hC d_Mod_copy_118 ?_
              refine ev_ldc kc_Mod_63 hC d_Mod_copy_119 ?_
              refine cv_Mod1 hC d_Mod_copy_121 (c_Mod_finding (k := 0) (by omega) (by decide +kernel)) mi_Mod_finding ml_Mod_82 im_Mod_finding se_Mod_finding rfl ⟨Nat.le_of_ble_eq_true rfl, Nat.le_of_ble_eq_true rfl⟩ ⟨Nat.le_of_ble_eq_true rfl, Nat.le_of_ble_eq_true rfl⟩ rfl rfl (Nat.le_of_ble_eq_true rfl)  ?_
              exact ev_iret hC hR d_Mod_copy_124 rfl (by simp only [R_copy, rbad, okR, h_4, h_11, h_27, h_36, h_59, h_70, ix, cs, ct, if_true, if_false, cond_true, cond_false, decide_true, decide_false, Bool.not_true, Bool.not_false, Bool.or_true, Bool.true_or, Bool.or_false, Bool.false_or, Bool.and_true, Bool.and_false, Bool.true_and, Bool.false_and, Bool.or_self, Bool.and_self, eq_self] <;> rfl) (by simp only [R_copy, rbad, okR, h_4, h_11, h_27, h_36, h_59, h_70, ix, cs, ct, if_true, if_false, cond_true, cond_false, decide_true, decide_false, Bool.not_true, Bool.not_false, Bool.or_true, Bool.true_or, Bool.or_false, Bool.false_or, Bool.and_true, Bool.and_false, Bool.true_and, Bool.false_and, Bool.or_self, Bool.and_self, eq_self] <;> rfl)
            · refine ev_iload rfl hC d_Mod_copy_73 ?_
              refine ev_if_lt 118 hC d_Mod_copy_75 rfl (fun h_75 => ?_) (fun h_75 => ?_)
              · refine ev_aload_n rfl hC d_Mod_copy_118 ?_
                refine ev_ldc kc_Mod_63 hC d_Mod_copy_119 ?_
                refine cv_Mod1 hC d_Mod_copy_121 (c_Mod_finding (k := 0) (by omega) (by decide +kernel)) mi_Mod_finding ml_Mod_82 im_Mod_finding se_Mod_finding rfl ⟨Nat.le_of_ble_eq_true rfl, Nat.le_of_ble_eq_true rfl⟩ ⟨Nat.le_of_ble_eq_true rfl, Nat.le_of_ble_eq_true rfl⟩ rfl rfl (Nat.le_of_ble_eq_true rfl)  ?_
                exact ev_iret hC hR d_Mod_copy_124 rfl (by simp only [R_copy, rbad, okR, h_4, h_11, h_27, h_36, h_59, h_70, h_75, ix, cs, ct, if_true, if_false, cond_true, cond_false, decide_true, decide_false, Bool.not_true, Bool.not_false, Bool.or_true, Bool.true_or, Bool.or_false, Bool.false_or, Bool.and_true, Bool.and_false, Bool.true_and, Bool.false_and, Bool.or_self, Bool.and_self, eq_self] <;> rfl) (by simp only [R_copy, rbad, okR, h_4, h_11, h_27, h_36, h_59, h_70, h_75, ix, cs, ct, if_true, if_false, cond_true, cond_false, decide_true, decide_false, Bool.not_true, Bool.not_false, Bool.or_true, Bool.true_or, Bool.or_false, Bool.false_or, Bool.and_true, Bool.and_false, Bool.true_and, Bool.false_and, Bool.or_self, Bool.and_self, eq_self] <;> rfl)
              · refine ev_iload rfl hC d_Mod_copy_78 ?_
                refine ev_if_lt 118 hC d_Mod_copy_80 rfl (fun h_80 => ?_) (fun h_80 => ?_)
                · refine ev_aload_n rfl hC d_Mod_copy_118 ?_
                  refine ev_ldc kc_Mod_63 hC d_Mod_copy_119 ?_
                  refine cv_Mod1 hC d_Mod_copy_121 (c_Mod_finding (k := 0) (by omega) (by decide +kernel)) mi_Mod_finding ml_Mod_82 im_Mod_finding se_Mod_finding rfl ⟨Nat.le_of_ble_eq_true rfl, Nat.le_of_ble_eq_true rfl⟩ ⟨Nat.le_of_ble_eq_true rfl, Nat.le_of_ble_eq_true rfl⟩ rfl rfl (Nat.le_of_ble_eq_true rfl)  ?_
                  exact ev_iret hC hR d_Mod_copy_124 rfl (by simp only [R_copy, rbad, okR, h_4, h_11, h_27, h_36, h_59, h_70, h_75, h_80, ix, cs, ct, if_true, if_false, cond_true, cond_false, decide_true, decide_false, Bool.not_true, Bool.not_false, Bool.or_true, Bool.true_or, Bool.or_false, Bool.false_or, Bool.and_true, Bool.and_false, Bool.true_and, Bool.false_and, Bool.or_self, Bool.and_self, eq_self] <;> rfl) (by simp only [R_copy, rbad, okR, h_4, h_11, h_27, h_36, h_59, h_70, h_75, h_80, ix, cs, ct, if_true, if_false, cond_true, cond_false, decide_true, decide_false, Bool.not_true, Bool.not_false, Bool.or_true, Bool.true_or, Bool.or_false, Bool.false_or, Bool.and_true, Bool.and_false, Bool.true_and, Bool.false_and, Bool.or_self, Bool.and_self, eq_self] <;> rfl)
                · refine ev_iload_n rfl hC d_Mod_copy_83 ?_
                  refine ev_i2l hC d_Mod_copy_84 ?_
                  refine ev_iload rfl hC d_Mod_copy_85 ?_
                  refine ev_i2l hC d_Mod_copy_87 ?_
                  refine ev_ladd hC d_Mod_copy_88 ?_
                  refine ev_aload_n rfl hC d_Mod_copy_89 ?_
                  refine gv_Mod_sizes hC d_Mod_copy_90 fl_Mod_53  ?_
                  refine ev_iload_n rfl hC d_Mod_copy_93 ?_
                  refine ga_sizes hC d_Mod_copy_94 (by first | assumption | omega) ?_
                  refine ev_i2l hC d_Mod_copy_95 ?_
                  refine ev_lcmp hC d_Mod_copy_96 ?_
                  refine ev_if_gt 118 hC d_Mod_copy_97 rfl (fun h_97 => ?_) (fun h_97 => ?_)
                  · refine ev_aload_n rfl hC d_Mod_copy_118 ?_
                    refine ev_ldc kc_Mod_63 hC d_Mod_copy_119 ?_
                    refine cv_Mod1 hC d_Mod_copy_121 (c_Mod_finding (k := 0) (by omega) (by decide +kernel)) mi_Mod_finding ml_Mod_82 im_Mod_finding se_Mod_finding rfl ⟨Nat.le_of_ble_eq_true rfl, Nat.le_of_ble_eq_true rfl⟩ ⟨Nat.le_of_ble_eq_true rfl, Nat.le_of_ble_eq_true rfl⟩ rfl rfl (Nat.le_of_ble_eq_true rfl)  ?_
                    exact ev_iret hC hR d_Mod_copy_124 rfl (by have g97 : holdsR (M.1 18 s) f n = false := (by simp only [holdsR, (lg_cmp_gt _ _).mp h_97, decide_true, Bool.not_true]); simp only [R_copy, rbad, okR, h_4, h_11, h_27, h_36, h_59, h_70, h_75, h_80, g97, ix, cs, ct, if_true, if_false, cond_true, cond_false, decide_true, decide_false, Bool.not_true, Bool.not_false, Bool.or_true, Bool.true_or, Bool.or_false, Bool.false_or, Bool.and_true, Bool.and_false, Bool.true_and, Bool.false_and, Bool.or_self, Bool.and_self, eq_self] <;> rfl) (by have g97 : holdsR (M.1 18 s) f n = false := (by simp only [holdsR, (lg_cmp_gt _ _).mp h_97, decide_true, Bool.not_true]); simp only [R_copy, rbad, okR, h_4, h_11, h_27, h_36, h_59, h_70, h_75, h_80, g97, ix, cs, ct, if_true, if_false, cond_true, cond_false, decide_true, decide_false, Bool.not_true, Bool.not_false, Bool.or_true, Bool.true_or, Bool.or_false, Bool.false_or, Bool.and_true, Bool.and_false, Bool.true_and, Bool.false_and, Bool.or_self, Bool.and_self, eq_self] <;> rfl)
                  · refine ev_iload rfl hC d_Mod_copy_100 ?_
                    refine ev_i2l hC d_Mod_copy_102 ?_
                    refine ev_iload rfl hC d_Mod_copy_103 ?_
                    refine ev_i2l hC d_Mod_copy_105 ?_
                    refine ev_ladd hC d_Mod_copy_106 ?_
                    refine ev_aload_n rfl hC d_Mod_copy_107 ?_
                    refine gv_Mod_sizes hC d_Mod_copy_108 fl_Mod_53  ?_
                    refine ev_iload_n rfl hC d_Mod_copy_111 ?_
                    refine ga_sizes hC d_Mod_copy_112 (by first | assumption | omega) ?_
                    refine ev_i2l hC d_Mod_copy_113 ?_
                    refine ev_lcmp hC d_Mod_copy_114 ?_
                    refine ev_if_le 125 hC d_Mod_copy_115 rfl (fun h_115 => ?_) (fun h_115 => ?_)
                    · refine ev_iconst (v := nI 0) rfl hC d_Mod_copy_125 ?_
                      refine ev_istore (by decide) hC d_Mod_copy_126 ?_
                      have g97 : holdsR (M.1 18 s) f n = true := by simp only [holdsR, decide_eq_false (fun a => h_97 ((lg_cmp_gt _ _).mpr a)), Bool.not_false]
                      have g115 : holdsR (M.1 18 t) o n = true := by simp only [holdsR, decide_eq_false (fun a => absurd h_115 (Int32.not_le.mpr ((lg_cmp_gt _ _).mpr a))), Bool.not_false]
                      have gok : okR (M.1 18 s) (M.1 18 t) f o n = true := by simp only [okR, h_70, h_75, h_80, g97, g115, decide_false, Bool.not_false, Bool.and_self]
                      obtain ⟨fa, hfa, rfl⟩ := nI_of h_70
                      obtain ⟨oa, hoa, rfl⟩ := nI_of h_75
                      obtain ⟨k, hk, rfl⟩ := nI_of h_80
                      simp only [holdsR, el, el2, Bool.not_eq_true', decide_eq_false_iff_not] at g97 g115
                      have q1 := le64 hfa hk hl g97
                      have q2 := le64 hoa hk hl2 g115
                      refine lp_Mod_copy1 (w := M.2 5) hs ht (by omega) (by omega) hC hR k 0 M (by omega) (by rw [mvA_0]) ?_
                      simp only [R_copy, h_4, h_11, h_27, h_36, h_59, gok, ix, cs, ct, nI_clamp hfa, nI_clamp hoa, nI_clamp hk, if_true, if_false, cond_true, cond_false, decide_true, decide_false, Bool.not_true, Bool.not_false, Bool.or_true, Bool.true_or, Bool.or_false, Bool.false_or, Bool.and_true, Bool.and_false, Bool.true_and, Bool.false_and, Bool.or_self, Bool.and_self, eq_self]
                      exact ⟨trivial, rfl⟩
                    · refine ev_aload_n rfl hC d_Mod_copy_118 ?_
                      refine ev_ldc kc_Mod_63 hC d_Mod_copy_119 ?_
                      refine cv_Mod1 hC d_Mod_copy_121 (c_Mod_finding (k := 0) (by omega) (by decide +kernel)) mi_Mod_finding ml_Mod_82 im_Mod_finding se_Mod_finding rfl ⟨Nat.le_of_ble_eq_true rfl, Nat.le_of_ble_eq_true rfl⟩ ⟨Nat.le_of_ble_eq_true rfl, Nat.le_of_ble_eq_true rfl⟩ rfl rfl (Nat.le_of_ble_eq_true rfl)  ?_
                      exact ev_iret hC hR d_Mod_copy_124 rfl (by have g97 : holdsR (M.1 18 s) f n = true := (by simp only [holdsR, decide_eq_false (fun a => h_97 ((lg_cmp_gt _ _).mpr a)), Bool.not_false]); have g115 : holdsR (M.1 18 t) o n = false := (by simp only [holdsR, (lg_cmp_gt _ _).mp (Int32.not_le.mp h_115), decide_true, Bool.not_true]); simp only [R_copy, rbad, okR, h_4, h_11, h_27, h_36, h_59, h_70, h_75, h_80, g97, g115, ix, cs, ct, if_true, if_false, cond_true, cond_false, decide_true, decide_false, Bool.not_true, Bool.not_false, Bool.or_true, Bool.true_or, Bool.or_false, Bool.false_or, Bool.and_true, Bool.and_false, Bool.true_and, Bool.false_and, Bool.or_self, Bool.and_self, eq_self] <;> rfl) (by have g97 : holdsR (M.1 18 s) f n = true := (by simp only [holdsR, decide_eq_false (fun a => h_97 ((lg_cmp_gt _ _).mpr a)), Bool.not_false]); have g115 : holdsR (M.1 18 t) o n = false := (by simp only [holdsR, (lg_cmp_gt _ _).mp (Int32.not_le.mp h_115), decide_true, Bool.not_true]); simp only [R_copy, rbad, okR, h_4, h_11, h_27, h_36, h_59, h_70, h_75, h_80, g97, g115, ix, cs, ct, if_true, if_false, cond_true, cond_false, decide_true, decide_false, Bool.not_true, Bool.not_false, Bool.or_true, Bool.true_or, Bool.or_false, Bool.false_or, Bool.and_true, Bool.and_false, Bool.true_and, Bool.false_and, Bool.or_self, Bool.and_self, eq_self] <;> rfl)
          · refine ev_aload_n rfl hC d_Mod_copy_62 ?_
            refine ev_ldc kc_Mod_134 hC d_Mod_copy_63 ?_
            refine cv_Mod1 hC d_Mod_copy_65 (c_Mod_finding (k := 2) (by omega) (by decide +kernel)) mi_Mod_finding ml_Mod_82 im_Mod_finding se_Mod_finding rfl ⟨Nat.le_of_ble_eq_true rfl, Nat.le_of_ble_eq_true rfl⟩ ⟨Nat.le_of_ble_eq_true rfl, Nat.le_of_ble_eq_true rfl⟩ rfl rfl (Nat.le_of_ble_eq_true rfl)  ?_
            exact ev_iret hC hR d_Mod_copy_68 rfl (by simp only [R_copy, rbad, okR, h_4, h_11, h_27, h_36, h_59, ix, cs, ct, if_true, if_false, cond_true, cond_false, decide_true, decide_false, Bool.not_true, Bool.not_false, Bool.or_true, Bool.true_or, Bool.or_false, Bool.false_or, Bool.and_true, Bool.and_false, Bool.true_and, Bool.false_and, Bool.or_self, Bool.and_self, eq_self] <;> rfl) (by simp only [R_copy, rbad, okR, h_4, h_11, h_27, h_36, h_59, ix, cs, ct, if_true, if_false, cond_true, cond_false, decide_true, decide_false, Bool.not_true, Bool.not_false, Bool.or_true, Bool.true_or, Bool.or_false, Bool.false_or, Bool.and_true, Bool.and_false, Bool.true_and, Bool.false_and, Bool.or_self, Bool.and_self, eq_self] <;> rfl)
        · refine ev_aload_n rfl hC d_Mod_copy_39 ?_
          refine ev_ldcw kc_Mod_309 hC d_Mod_copy_40 ?_
          refine cv_Mod1 hC d_Mod_copy_43 (c_Mod_finding (k := 5) (by omega) (by decide +kernel)) mi_Mod_finding ml_Mod_82 im_Mod_finding se_Mod_finding rfl ⟨Nat.le_of_ble_eq_true rfl, Nat.le_of_ble_eq_true rfl⟩ ⟨Nat.le_of_ble_eq_true rfl, Nat.le_of_ble_eq_true rfl⟩ rfl rfl (Nat.le_of_ble_eq_true rfl)  ?_
          exact ev_iret hC hR d_Mod_copy_46 rfl (by simp only [R_copy, rbad, okR, h_4, h_11, h_27, h_36, ix, cs, ct, if_true, if_false, cond_true, cond_false, decide_true, decide_false, Bool.not_true, Bool.not_false, Bool.or_true, Bool.true_or, Bool.or_false, Bool.false_or, Bool.and_true, Bool.and_false, Bool.true_and, Bool.false_and, Bool.or_self, Bool.and_self, eq_self] <;> rfl) (by simp only [R_copy, rbad, okR, h_4, h_11, h_27, h_36, ix, cs, ct, if_true, if_false, cond_true, cond_false, decide_true, decide_false, Bool.not_true, Bool.not_false, Bool.or_true, Bool.true_or, Bool.or_false, Bool.false_or, Bool.and_true, Bool.and_false, Bool.true_and, Bool.false_and, Bool.or_self, Bool.and_self, eq_self] <;> rfl)
    · refine ev_aload_n rfl hC d_Mod_copy_14 ?_
      refine ev_ldc kc_Mod_63 hC d_Mod_copy_15 ?_
      refine cv_Mod1 hC d_Mod_copy_17 (c_Mod_finding (k := 0) (by omega) (by decide +kernel)) mi_Mod_finding ml_Mod_82 im_Mod_finding se_Mod_finding rfl ⟨Nat.le_of_ble_eq_true rfl, Nat.le_of_ble_eq_true rfl⟩ ⟨Nat.le_of_ble_eq_true rfl, Nat.le_of_ble_eq_true rfl⟩ rfl rfl (Nat.le_of_ble_eq_true rfl)  ?_
      exact ev_iret hC hR d_Mod_copy_20 rfl (by simp only [R_copy, rbad, okR, h_4, h_11, if_true, if_false, cond_true, cond_false, decide_true, decide_false, Bool.not_true, Bool.not_false, Bool.or_true, Bool.true_or, Bool.or_false, Bool.false_or, Bool.and_true, Bool.and_false, Bool.true_and, Bool.false_and, Bool.or_self, Bool.and_self, eq_self] <;> rfl) (by simp only [R_copy, rbad, okR, h_4, h_11, if_true, if_false, cond_true, cond_false, decide_true, decide_false, Bool.not_true, Bool.not_false, Bool.or_true, Bool.true_or, Bool.or_false, Bool.false_or, Bool.and_true, Bool.and_false, Bool.true_and, Bool.false_and, Bool.or_self, Bool.and_self, eq_self] <;> rfl)
