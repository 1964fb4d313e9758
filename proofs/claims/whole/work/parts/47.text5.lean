def pL : Nat → Nat → ex_M → Int32 × ex_M
  | 0, _, M => (-1 - M.1 3 5, M)
  | m + 1, k, M => bif (P_item M).1 then (if (P_item M).2.1 3 4 = 0 then (nI k, (P_item M).2) else if (P_item M).2.1 3 4 = 3 then pL m (k + 1) (stp (P_item M).2) else (-1 - (P_item M).2.1 3 5, (P_item M).2)) else (-1 - (P_item M).2.1 3 5, (P_item M).2)
def P_parse (M : ex_M) (l : Nat) : Int32 × ex_M := pL 120 1 (stC (mJ M 3 6 0) l 0)
theorem PI_start {M : ex_M} {l : Nat} (hl : l ≤ 120) (e : M.1 3 3 = nI l) (h3 : ∃ n, M.1 1 3 = nI n ∧ n ≤ 8) (h2 : ∃ n, M.1 1 2 = nI n ∧ n ≤ 8) : PI (stC (mJ M 3 6 0) l 0) :=
  ⟨TKI_stC e hl (Nat.zero_le _), by rw [stC_1 _ _ _ _ (by decide)]; exact h3, by rw [stC_1 _ _ _ _ (by decide)]; exact h2⟩

set_option maxHeartbeats 4000000 in
set_option maxRecDepth 10000 in
theorem lp_Text_parse {G : ex_G} {C : ex_C} {rr : Option Value} {ee : List va_E}  (hC : Cx G C Y_Text_parse { frames := 8, cells := 0, slots := 0, locals := 174 }) (hR : Cr G C Y_Text_parse 0 0 rr ee) :
    ∀ (m i : Nat) (M : ex_M), i + m = 121 → PI M → rr = some (.int (pL m i M).1) ∧ ee = ce G (pL m i M).2 → Ev G C Y_Text_parse 11 [some (.ref (ex_b G + 59)), some (.ref (ex_b G + aR 1)), some (.int (nI i))] [] 0 0 (ce G (M)) := by
  intro m
  induction m with
  | zero =>
    intro i M hm hc he
    refine ev_iload_n rfl hC d_Text_parse_11 ?_
    refine ev_bipush (v := 120) rfl hC d_Text_parse_12 ?_
    refine ev_icmp_gt 58 hC d_Text_parse_14 rfl (fun _ => ?_) (fun h => absurd (by rw [show (120 : Int32) = nI 120 from rfl]; exact nI_lt (by omega) (by omega)) h)
    refine ev_iconst (v := -1) rfl hC d_Text_parse_58 ?_
    refine ev_aload_n rfl hC d_Text_parse_59 ?_
    refine gv_Text_place hC d_Text_parse_60 fl_Text_32  ?_
    refine ev_isub hC d_Text_parse_63 ?_
    exact ev_iret hC hR d_Text_parse_64 rfl (by rw [he.1, pL]) (by rw [he.2, pL])
  | succ m ih =>
    intro i M hm hc he
    skip
    refine ev_iload_n rfl hC d_Text_parse_11 ?_
    refine ev_bipush (v := 120) rfl hC d_Text_parse_12 ?_
    refine ev_icmp_gt 58 hC d_Text_parse_14 rfl (fun h => absurd h (by rw [show (120 : Int32) = nI 120 from rfl]; exact nI_nlt (by omega) (by omega))) (fun _ => ?_)
    refine ev_aload_n rfl hC d_Text_parse_17 ?_
    refine ev_aload_n rfl hC d_Text_parse_18 ?_
    refine cv_Text1 hC d_Text_parse_19 (c_Text_parseItem hc) mi_Text_parseItem ml_Text_25 im_Text_parseItem se_Text_parseItem rfl ⟨Nat.le_of_ble_eq_true rfl, Nat.le_of_ble_eq_true rfl⟩ ⟨Nat.le_of_ble_eq_true rfl, Nat.le_of_ble_eq_true rfl⟩ rfl rfl (Nat.le_of_ble_eq_true rfl)  ?_
    refine eb_ne 28 hC d_Text_parse_22 rfl (fun h_22 => ?_) (fun h_22 => ?_)
    · refine ev_aload_n rfl hC d_Text_parse_28 ?_
      refine gv_Text_token hC d_Text_parse_29 fl_Text_29  ?_
      refine ev_if_ne 37 hC d_Text_parse_32 rfl (fun h_32 => ?_) (fun h_32 => ?_)
      · refine ev_aload_n rfl hC d_Text_parse_37 ?_
        refine gv_Text_token hC d_Text_parse_38 fl_Text_29  ?_
        refine ev_iconst (v := 3) rfl hC d_Text_parse_41 ?_
        refine ev_icmp_eq 48 hC d_Text_parse_42 rfl (fun h_42 => ?_) (fun h_42 => ?_)
        · refine ev_aload_n rfl hC d_Text_parse_48 ?_
          refine cv_Text0 hC d_Text_parse_49 (c_step (PI_item hc).1) mi_Text_step ml_Text_22 im_Text_step se_Text_step rfl ⟨Nat.le_of_ble_eq_true rfl, Nat.le_of_ble_eq_true rfl⟩ ⟨Nat.le_of_ble_eq_true rfl, Nat.le_of_ble_eq_true rfl⟩ rfl rfl (Nat.le_of_ble_eq_true rfl)  ?_
          refine ev_iinc rfl (by decide) (nI_1 _) hC d_Text_parse_52 ?_
          refine ev_goto 11 hC d_Text_parse_55 rfl ?_
          exact ih (i + 1) _ (by omega) (PI_stp (PI_item hc)) (by rw [he.1, he.2]; simp only [pL, h_22, cond_true, if_neg h_32, if_pos h_42]; exact ⟨trivial, trivial⟩)
        · refine ev_goto 58 hC d_Text_parse_45 rfl ?_
          refine ev_iconst (v := -1) rfl hC d_Text_parse_58 ?_
          refine ev_aload_n rfl hC d_Text_parse_59 ?_
          refine gv_Text_place hC d_Text_parse_60 fl_Text_32  ?_
          refine ev_isub hC d_Text_parse_63 ?_
          exact ev_iret hC hR d_Text_parse_64 rfl (by rw [he.1]; simp only [pL, h_22, cond_true, if_neg h_32, if_neg h_42]) (by rw [he.2]; simp only [pL, h_22, cond_true, if_neg h_32, if_neg h_42])
      · refine ev_iload_n rfl hC d_Text_parse_35 ?_
        exact ev_iret hC hR d_Text_parse_36 rfl (by rw [he.1]; simp only [pL, h_22, cond_true, if_pos h_32]) (by rw [he.2]; simp only [pL, h_22, cond_true, if_pos h_32])
    · refine ev_goto 58 hC d_Text_parse_25 rfl ?_
      refine ev_iconst (v := -1) rfl hC d_Text_parse_58 ?_
      refine ev_aload_n rfl hC d_Text_parse_59 ?_
      refine gv_Text_place hC d_Text_parse_60 fl_Text_32  ?_
      refine ev_isub hC d_Text_parse_63 ?_
      exact ev_iret hC hR d_Text_parse_64 rfl (by rw [he.1]; simp only [pL, h_22, cond_false]) (by rw [he.2]; simp only [pL, h_22, cond_false])

set_option maxHeartbeats 2000000 in
set_option maxRecDepth 10000 in
theorem c_Text_parse {G : ex_G} {M : ex_M} {l : Nat} (hl : l ≤ 120) (e : M.1 3 3 = nI l) (h3 : ∃ n, M.1 1 3 = nI n ∧ n ≤ 8) (h2 : ∃ n, M.1 1 2 = nI n ∧ n ≤ 8) : Con G Y_Text_parse 8 174 0 0 [.ref (ex_b G + 59), .ref (ex_b G + aR 1)] (ce G M) (some (.int (P_parse M l).1)) (ce G ((P_parse M l).2)) := by
  refine Con.ofF (plainFor_of_name (by decide +kernel)) (Nat.le_of_ble_eq_true rfl) (fun C hC hR => ?_)
  show Ev G C Y_Text_parse 0 [some (.ref (ex_b G + 59)), some (.ref (ex_b G + aR 1))] [] 0 0 (ce G M)
  refine ev_aload_n rfl hC d_Text_parse_0 ?_
  refine ev_iconst (v := 0) rfl hC d_Text_parse_1 ?_
  refine pv_Text_behind hC d_Text_parse_2 fl_Text_19  ?_
  refine ev_aload_n rfl hC d_Text_parse_5 ?_
  refine cv_Text0 hC d_Text_parse_6 (c_Text_step (b := 0) hl (Nat.zero_le _) e rfl) mi_Text_step ml_Text_22 im_Text_step se_Text_step rfl ⟨Nat.le_of_ble_eq_true rfl, Nat.le_of_ble_eq_true rfl⟩ ⟨Nat.le_of_ble_eq_true rfl, Nat.le_of_ble_eq_true rfl⟩ rfl rfl (Nat.le_of_ble_eq_true rfl)  ?_
  refine ev_iconst (v := nI 1) rfl hC d_Text_parse_9 ?_
  refine ev_istore_n (by decide) hC d_Text_parse_10 ?_
  exact lp_Text_parse hC hR 120 1 _ (by omega) (PI_start hl e h3 h2) ⟨rfl, rfl⟩
