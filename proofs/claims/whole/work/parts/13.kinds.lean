def undF : Nat → Int32 → Int32 → Bool
  | 0, _, _ => false
  | n + 1, x, s => if x < 0 then false else if x = s then true else undF n (ck_above x.toNatClampNeg) s
theorem und_step {x : Int32} (h : vp_in x 6) : ck_above x.toNatClampNeg < 0 ∨ vp_in (ck_above x.toNatClampNeg) 6 := by
  obtain ⟨j, hj, rfl⟩ := vp_in_of h (by decide)
  rw [nI_clamp (by omega)]
  rcases (by omega : j = 0 ∨ j = 1 ∨ j = 2 ∨ j = 3 ∨ j = 4 ∨ j = 5) with e | e | e | e | e | e <;> subst e <;> first | exact Or.inl (by decide) | exact Or.inr (vp_in_nI (n := 0) (by decide) (by decide)) | exact Or.inr (vp_in_nI (n := 3) (by decide) (by decide)) | exact Or.inr (vp_in_nI (n := 2) (by decide) (by decide))

set_option maxHeartbeats 2000000 in
set_option maxRecDepth 10000 in
theorem lp_Kinds_isUnder {G : ex_G} {C : ex_C} {rr : Option Value} {ee : List va_E} {M : ex_M} {k s : Int32} (hC : Cx G C Y_Kinds_isUnder { frames := 0, cells := 0, slots := 0, locals := 0 }) (hR : Cr G C Y_Kinds_isUnder 0 0 rr ee) :
    ∀ (n l : Nat) (x : Int32), l + n = 6 → (x < 0 ∨ vp_in x 6) → rr = some (.int (bi (undF n x s))) → ee = ce G M → Ev G C Y_Kinds_isUnder 4 [some (.int k), some (.int s), some (.int x), some (.int (nI l))] [] 0 0 (ce G (M)) := by
  intro n
  induction n with
  | zero =>
    intro l x hn hx hr he
    refine ev_iload_n rfl hC d_Kinds_isUnder_4 ?_
    refine ev_iconst (v := 5) rfl hC d_Kinds_isUnder_5 ?_
    refine ev_icmp_gt 32 hC d_Kinds_isUnder_6 rfl (fun h_6 => ?_) (fun h_6 => ?_)
    · refine ev_iconst (v := 0) rfl hC d_Kinds_isUnder_32 ?_
      exact ev_zret hC hR d_Kinds_isUnder_33 rfl (by decide) (by rw [hr]; rfl) he
    · exact absurd (by rw [show (5 : Int32) = nI 5 from rfl]; exact nI_lt (by omega) (by omega)) h_6
  | succ n ih =>
    intro l x hn hx hr he
    refine ev_iload_n rfl hC d_Kinds_isUnder_4 ?_
    refine ev_iconst (v := 5) rfl hC d_Kinds_isUnder_5 ?_
    refine ev_icmp_gt 32 hC d_Kinds_isUnder_6 rfl (fun h_6 => absurd h_6 (by rw [show (5 : Int32) = nI 5 from rfl]; exact nI_nlt (by omega) (by omega))) (fun h_6 => ?_)
    refine ev_iload_n rfl hC d_Kinds_isUnder_9 ?_
    refine ev_if_lt 32 hC d_Kinds_isUnder_10 rfl (fun h_10 => ?_) (fun h_10 => ?_)
    · refine ev_iconst (v := 0) rfl hC d_Kinds_isUnder_32 ?_
      exact ev_zret hC hR d_Kinds_isUnder_33 rfl (by first | exact bi_nar _ | decide) (by rw [hr]; first | (rw [undF, if_neg h_10, if_pos h_15]; rfl) | (rw [undF, if_pos h_10]; rfl)) (he)
    · refine ev_iload_n rfl hC d_Kinds_isUnder_13 ?_
      refine ev_iload_n rfl hC d_Kinds_isUnder_14 ?_
      refine ev_icmp_ne 20 hC d_Kinds_isUnder_15 rfl (fun h_15 => ?_) (fun h_15 => ?_)
      · refine ev_above hC d_Kinds_isUnder_20 fl_Kinds_9 ?_
        refine ev_iload_n rfl hC d_Kinds_isUnder_23 ?_
        have hv : vp_in x 6 := hx.resolve_left h_10
        refine ev_aboveAt hC d_Kinds_isUnder_24 hv ?_
        refine ev_istore_n (by decide) hC d_Kinds_isUnder_25 ?_
        refine ev_iinc rfl (by decide) (nI_1 _) hC d_Kinds_isUnder_26 ?_
        refine ev_goto 4 hC d_Kinds_isUnder_29 rfl ?_
        exact ih (l + 1) _ (by omega) (und_step hv) (by rw [hr, undF, if_neg h_10, if_neg h_15]) he
      · refine ev_iconst (v := 1) rfl hC d_Kinds_isUnder_18 ?_
        exact ev_zret hC hR d_Kinds_isUnder_19 rfl (by first | exact bi_nar _ | decide) (by rw [hr]; first | (rw [undF, if_neg h_10, if_pos h_15]; rfl) | (rw [undF, if_pos h_10]; rfl)) (he)

set_option maxHeartbeats 2000000 in
set_option maxRecDepth 10000 in
theorem c_Kinds_isUnder {G : ex_G} {M : ex_M} {k s : Int32} (hk : vp_in k 6) : Con G Y_Kinds_isUnder 0 0 0 0 [.int k, .int s] (ce G M) (some (.int (bi (undF 6 k s)))) (ce G (M)) := by
  refine Con.ofF (plainFor_of_name (by decide +kernel)) (Nat.le_of_ble_eq_true rfl) (fun C hC hR => ?_)
  show Ev G C Y_Kinds_isUnder 0 [some (.int k), some (.int s)] [] 0 0 (ce G M)
  refine ev_iload_n rfl hC d_Kinds_isUnder_0 ?_
  refine ev_istore_n (by decide) hC d_Kinds_isUnder_1 ?_
  refine ev_iconst (v := nI 0) rfl hC d_Kinds_isUnder_2 ?_
  refine ev_istore_n (by decide) hC d_Kinds_isUnder_3 ?_
  exact lp_Kinds_isUnder hC hR 6 0 k (by omega) (Or.inr hk) rfl rfl

set_option maxHeartbeats 2000000 in
set_option maxRecDepth 10000 in
theorem c_Mod_above {G : ex_G} {M : ex_M} {k : Int32} : Con G Y_Mod_above 0 0 0 0 [.int k] (ce G M) (some (.int (if k = 0 then -1 else if k = 4 then 3 else if k = 5 then 2 else 0))) (ce G (M)) := by
  refine Con.ofF (plainFor_of_name (by decide +kernel)) (Nat.le_of_ble_eq_true rfl) (fun C hC hR => ?_)
  show Ev G C Y_Mod_above 0 [some (.int k)] [] 0 0 (ce G M)
  refine ev_iload_n rfl hC d_Mod_above_0 ?_
  refine ev_if_ne 8 hC d_Mod_above_1 rfl (fun h_1 => ?_) (fun h_1 => ?_)
  · refine ev_iload_n rfl hC d_Mod_above_8 ?_
    refine ev_iconst (v := 4) rfl hC d_Mod_above_9 ?_
    refine ev_icmp_ne 17 hC d_Mod_above_10 rfl (fun h_10 => ?_) (fun h_10 => ?_)
    · refine ev_iload_n rfl hC d_Mod_above_17 ?_
      refine ev_iconst (v := 5) rfl hC d_Mod_above_18 ?_
      refine ev_icmp_ne 26 hC d_Mod_above_19 rfl (fun h_19 => ?_) (fun h_19 => ?_)
      · refine ev_iconst (v := 0) rfl hC d_Mod_above_26 ?_
        exact ev_iret hC hR d_Mod_above_27 rfl (by simp_all) (rfl)
      · refine ev_iconst (v := 2) rfl hC d_Mod_above_22 ?_
        refine ev_goto 27 hC d_Mod_above_23 rfl ?_
        exact ev_iret hC hR d_Mod_above_27 rfl (by simp_all) (rfl)
    · refine ev_iconst (v := 3) rfl hC d_Mod_above_13 ?_
      refine ev_goto 27 hC d_Mod_above_14 rfl ?_
      exact ev_iret hC hR d_Mod_above_27 rfl (by simp_all) (rfl)
  · refine ev_iconst (v := -1) rfl hC d_Mod_above_4 ?_
    refine ev_goto 27 hC d_Mod_above_5 rfl ?_
    exact ev_iret hC hR d_Mod_above_27 rfl (by simp_all) (rfl)

set_option maxHeartbeats 2000000 in
set_option maxRecDepth 10000 in
theorem c_Mod_has {G : ex_G} {M : ex_M} {k e : Int32} : Con G Y_Mod_has 0 0 0 0 [.int k, .int e] (ce G M) (some (.int (bi (decide ((k >>> (e &&& 31)) &&& 1 = 1))))) (ce G (M)) := by
  refine Con.ofF (plainFor_of_name (by decide +kernel)) (Nat.le_of_ble_eq_true rfl) (fun C hC hR => ?_)
  show Ev G C Y_Mod_has 0 [some (.int k), some (.int e)] [] 0 0 (ce G M)
  refine ev_iload_n rfl hC d_Mod_has_0 ?_
  refine ev_iload_n rfl hC d_Mod_has_1 ?_
  refine ev_ishr hC d_Mod_has_2 ?_
  refine ev_iconst (v := 1) rfl hC d_Mod_has_3 ?_
  refine ev_iand hC d_Mod_has_4 ?_
  refine ev_iconst (v := 1) rfl hC d_Mod_has_5 ?_
  refine ev_icmp_ne 13 hC d_Mod_has_6 rfl (fun h_6 => ?_) (fun h_6 => ?_)
  · refine ev_iconst (v := 0) rfl hC d_Mod_has_13 ?_
    exact ev_zret hC hR d_Mod_has_14 rfl (by first | exact bi_nar _ | decide) (by simp_all [bi]) (rfl)
  · refine ev_iconst (v := 1) rfl hC d_Mod_has_9 ?_
    refine ev_goto 14 hC d_Mod_has_10 rfl ?_
    exact ev_zret hC hR d_Mod_has_14 rfl (by first | exact bi_nar _ | decide) (by simp_all [bi]) (rfl)
