/-! the reference's sheets -/
def WR4 (a : Nat → Int32) : Prop := ∀ s, s < 4 → ∃ l, l ≤ 40 ∧ a s = nI l
def zfR (s k : Nat) (f : Nat → Int64) : Nat → Int64 := fun j => if 40 * s ≤ j ∧ j < 40 * s + k then 0 else f j
theorem zfR_0 (s : Nat) (f : Nat → Int64) : zfR s 0 f = f := by funext j; unfold zfR; rw [if_neg (by omega)]
theorem zfR_s (s k : Nat) (f : Nat → Int64) : vp_updL (zfR s k f) (40 * s + k) 0 = zfR s (k + 1) f := by
  funext j
  simp only [vp_updL, zfR]
  by_cases h : j = 40 * s + k
  · rw [if_pos h, if_pos (by omega)]
  · rw [if_neg h]
    by_cases h2 : 40 * s ≤ j ∧ j < 40 * s + k
    · rw [if_pos h2, if_pos (by omega)]
    · rw [if_neg h2, if_neg (by omega)]
def shBR (M : ex_M) (s : Nat) (b n : Int32) : ex_M := mL (mJ (mJ M 17 s b) 18 s (if b = 0 then 0 else n)) 4 (zfR s 40 (M.2 4))
def R_sheet (M : ex_M) (s b n : Int32) : Int32 × ex_M := bif out s 0 3 || !bitsOk b then rbad M 0 else if 0 ≤ n then (if n ≤ 40 then (if b = 0 then 0 else n, shBR M (ix s) b n) else rbad M 0) else rbad M 6
def putR (M : ex_M) (s k : Nat) (v : Int64) : ex_M := mL M 4 (vp_updL (M.2 4) (40 * s + k) (ctI (M.1 17 s) v))
def R_write (M : ex_M) (s i : Int32) (v : Int64) : Int64 × ex_M := bif out s 0 3 then ((fnd 0).toInt64, (rbad M 0).2) else if M.1 17 (ix s) = 0 then ((fnd 5).toInt64, (rbad M 5).2) else bif out i 0 (M.1 18 (ix s) - 1) then ((fnd 0).toInt64, (rbad M 0).2) else (M.2 4 (40 * ix s + ix i), putR M (ix s) (ix i) v)
def foR (M : ex_M) (s : Int32) : Int32 := bif out s 0 3 then fnd 0 else if M.1 17 (ix s) = 0 then fnd 5 else 0
def rbadv (M : ex_M) (v : Int32) : Int32 × ex_M := if v = fnd 0 then rbad M 0 else rbad M 5
theorem foR_n {M : ex_M} {s : Int32} (h : ¬ foR M s = 0) : foR M s = fnd 0 ∨ foR M s = fnd 5 := by
  unfold foR at h ⊢
  cases h1 : out s 0 3 with
  | true => exact Or.inl rfl
  | false =>
    rw [h1, cond_false] at h
    rw [cond_false]
    by_cases h2 : M.1 17 (ix s) = 0
    · rw [if_pos h2]; exact Or.inr rfl
    · rw [if_neg h2] at h; exact absurd rfl h
theorem foR_0 {M : ex_M} {s : Int32} (h : foR M s = 0) : ∃ i, i < 4 ∧ s = nI i ∧ ¬ M.1 17 i = 0 := by
  unfold foR at h
  cases h1 : out s 0 3 with
  | true => rw [h1, cond_true] at h; exact absurd h (by decide +kernel)
  | false =>
    rw [h1, cond_false] at h
    obtain ⟨i, hi, rfl⟩ := out_nat (n := 3) (by decide) h1
    refine ⟨i, by omega, rfl, fun h2 => ?_⟩
    rw [ix, nI_clamp (by omega), if_pos h2] at h
    exact absurd h (by decide +kernel)
theorem c_Mod_finding_fo {G : ex_G} {M : ex_M} {v : Int32} (hv : v = fnd 0 ∨ v = fnd 5) : Con G Y_Mod_finding 0 0 0 0 [.ref (ex_b G + 71), .int v] (ce G M) (some (.int v)) (ce G (rbadv M v).2) := by
  rcases hv with h | h
  · refine Con.to (c_Mod_finding (k := 0) (by omega) h) rfl ?_
    rw [rbadv, if_pos h]
  · refine Con.to (c_Mod_finding (k := 5) (by omega) h) rfl ?_
    rw [rbadv, if_neg (by rw [h]; decide +kernel)]
def nmR (M : ex_M) (s : Nat) : Nat → Int64 := fun i => M.2 4 (40 * s + i)
def R_lays (M : ex_M) (np l : Nat) (s : Int32) : Int32 × ex_M := if foR M s = 0 then ((layL (nmR M (ix s)) (min l np) 0 0 (M.1 10)).1, mI M 10 (layL (nmR M (ix s)) (min l np) 0 0 (M.1 10)).2) else (foR M s, (rbadv M (foR M s)).2)
def bokR (aw : Int32) (np ne j s : Nat) : Nat → Nat → ex_M → ex_M
  | 0, _, M => M
  | m + 1, i, M => bokR aw np ne j s m (i + 1) (mI (putR M s i (M.1 10 (28 + 7 * j + 2)).toInt64) 10 (hourR aw np ne (M.1 10)))
def R_book (M : ex_M) (np ne l : Nat) (s p : Int32) : Int32 × ex_M := if foR M s = 0 then (bif out p 0 (M.1 10 3 - 1) then rbad M 0 else (nI l, bck (bokR (M.1 14 1) np ne (ix p) (ix s) l 0 (asd M)))) else (foR M s, (rbadv M (foR M s)).2)

set_option maxHeartbeats 4000000 in
set_option maxRecDepth 10000 in
theorem lp_Mod_sheet {G : ex_G} {C : ex_C} {rr : Option Value} {ee : List va_E} {s : Nat} {b n : Int32} {f : Nat → Int64} (hs : s < 4) (hC : Cx G C Y_Mod_sheet { frames := 2, cells := 0, slots := 0, locals := 42 }) (hR : Cr G C Y_Mod_sheet 0 0 rr ee) :
    ∀ (m i : Nat) (M : ex_M), i + m = 40 → M.2 4 = zfR s i f → rr = some (.int (M.1 18 s)) ∧ ee = ce G (mL M 4 (zfR s 40 f)) → Ev G C Y_Mod_sheet 86 [some (.ref (ex_b G + 71)), some (.int (nI s)), some (.int b), some (.int n), some (.int (nI i))] [] 0 0 (ce G (M)) := by
  intro m
  induction m with
  | zero =>
    intro i M hm hc he
    refine ev_iload rfl hC d_Mod_sheet_86 ?_
    refine ev_bipush (v := 40) rfl hC d_Mod_sheet_88 ?_
    refine ev_icmp_ge 112 hC d_Mod_sheet_90 rfl (fun _ => ?_) (fun h => absurd (by rw [show (40 : Int32) = nI 40 from rfl]; exact nI_le (by omega) (by omega)) h)
    refine ev_aload_n rfl hC d_Mod_sheet_112 ?_
    refine gv_Mod_sizes hC d_Mod_sheet_113 fl_Mod_53  ?_
    refine ev_iload_n rfl hC d_Mod_sheet_116 ?_
    refine ga_sizes hC d_Mod_sheet_117 (by first | assumption | omega) ?_
    exact ev_iret hC hR d_Mod_sheet_118 rfl (he.1) (by rw [he.2, show zfR s 40 f = M.2 4 by rw [hc, show i = 40 by omega]]; simp only [mL, wr_id])
  | succ m ih =>
    intro i M hm hc he
    have hi : i < 40 := by omega
    refine ev_iload rfl hC d_Mod_sheet_86 ?_
    refine ev_bipush (v := 40) rfl hC d_Mod_sheet_88 ?_
    refine ev_icmp_ge 112 hC d_Mod_sheet_90 rfl (fun h => absurd h (by rw [show (40 : Int32) = nI 40 from rfl]; exact nI_ge (by omega) (by omega))) (fun _ => ?_)
    refine ev_aload_n rfl hC d_Mod_sheet_93 ?_
    refine gv_Mod_numbers hC d_Mod_sheet_94 fl_Mod_56  ?_
    refine ev_bipush (v := nI 40) rfl hC d_Mod_sheet_97 ?_
    refine ev_iload_n rfl hC d_Mod_sheet_99 ?_
    refine ev_imul hC d_Mod_sheet_100 ?_
    refine ev_iload rfl hC d_Mod_sheet_101 ?_
    refine ev_iadd hC d_Mod_sheet_103 ?_
    rw [pk_mul, nI_add]
    refine ev_lconst (v := 0) rfl hC d_Mod_sheet_104 ?_
    refine pa_numbers hC d_Mod_sheet_105 (by first | assumption | omega) ?_
    refine ev_iinc rfl (by decide) (nI_1 _) hC d_Mod_sheet_106 ?_
    refine ev_goto 86 hC d_Mod_sheet_109 rfl ?_
    exact ih (i + 1) _ (by omega) (by simp only [mL, wr_s]; rw [hc, zfR_s]) (by rw [he.1, he.2]; simp only [mL, wr_wr]; exact ⟨trivial, trivial⟩)

set_option maxHeartbeats 2000000 in
set_option maxRecDepth 10000 in
theorem c_Mod_sheet {G : ex_G} {M : ex_M} {x b n : Int32} : Con G Y_Mod_sheet 2 42 0 0 [.ref (ex_b G + 71), .int x, .int b, .int n] (ce G M) (some (.int (R_sheet M x b n).1)) (ce G ((R_sheet M x b n).2)) := by
  refine Con.ofF (plainFor_of_name (by decide +kernel)) (Nat.le_of_ble_eq_true rfl) (fun C hC hR => ?_)
  show Ev G C Y_Mod_sheet 0 [some (.ref (ex_b G + 71)), some (.int x), some (.int b), some (.int n)] [] 0 0 (ce G M)
  refine ev_iload_n rfl hC d_Mod_sheet_0 ?_
  refine cs_1 hC d_Mod_sheet_1 (c_Mod_isSheet ) mi_Mod_isSheet ml_Mod_305 sm_Mod_isSheet ⟨Nat.le_of_ble_eq_true rfl, Nat.le_of_ble_eq_true rfl⟩ ⟨Nat.le_of_ble_eq_true rfl, Nat.le_of_ble_eq_true rfl⟩ rfl rfl (Nat.le_of_ble_eq_true rfl) ?_
  refine en_eq 29 hC d_Mod_sheet_4 rfl (fun h_4 => ?_) (fun h_4 => ?_)
  · refine ev_aload_n rfl hC d_Mod_sheet_29 ?_
    refine ev_ldc kc_Mod_63 hC d_Mod_sheet_30 ?_
    refine cv_Mod1 hC d_Mod_sheet_32 (c_Mod_finding (k := 0) (by omega) (by decide +kernel)) mi_Mod_finding ml_Mod_82 im_Mod_finding se_Mod_finding rfl ⟨Nat.le_of_ble_eq_true rfl, Nat.le_of_ble_eq_true rfl⟩ ⟨Nat.le_of_ble_eq_true rfl, Nat.le_of_ble_eq_true rfl⟩ rfl rfl (Nat.le_of_ble_eq_true rfl)  ?_
    exact ev_iret hC hR d_Mod_sheet_35 rfl (by simp only [R_sheet, bitsOk, rbad, h_4, if_true, if_false, cond_true, cond_false, decide_true, decide_false, Bool.not_true, Bool.not_false, Bool.or_true, Bool.true_or, Bool.or_false, Bool.false_or, Bool.and_true, Bool.and_false, Bool.true_and, Bool.false_and, Bool.or_self, Bool.and_self, eq_self] <;> rfl) (by simp only [R_sheet, bitsOk, rbad, h_4, if_true, if_false, cond_true, cond_false, decide_true, decide_false, Bool.not_true, Bool.not_false, Bool.or_true, Bool.true_or, Bool.or_false, Bool.false_or, Bool.and_true, Bool.and_false, Bool.true_and, Bool.false_and, Bool.or_self, Bool.and_self, eq_self] <;> rfl)
  · refine ev_iload_n rfl hC d_Mod_sheet_7 ?_
    refine ev_if_eq 36 hC d_Mod_sheet_8 rfl (fun h_8 => ?_) (fun h_8 => ?_)
    · obtain ⟨s, hs, rfl⟩ := out_nat (n := 3) (by decide) h_4
      have cs : (nI s).toNatClampNeg = s := nI_clamp (by omega)
      have hbk : bitsOk b = true := by simp [bitsOk, h_8]
      refine ev_iload_n rfl hC d_Mod_sheet_36 ?_
      refine ev_if_ge 48 hC d_Mod_sheet_37 rfl (fun h_37 => ?_) (fun h_37 => ?_)
      · refine ev_iload_n rfl hC d_Mod_sheet_48 ?_
        refine ev_bipush (v := 40) rfl hC d_Mod_sheet_49 ?_
        refine ev_icmp_le 61 hC d_Mod_sheet_51 rfl (fun h_51 => ?_) (fun h_51 => ?_)
        · refine ev_aload_n rfl hC d_Mod_sheet_61 ?_
          refine gv_Mod_widths hC d_Mod_sheet_62 fl_Mod_50  ?_
          refine ev_iload_n rfl hC d_Mod_sheet_65 ?_
          refine ev_iload_n rfl hC d_Mod_sheet_66 ?_
          refine pa_widths hC d_Mod_sheet_67 (by first | assumption | omega) ?_
          refine ev_aload_n rfl hC d_Mod_sheet_68 ?_
          refine gv_Mod_sizes hC d_Mod_sheet_69 fl_Mod_53  ?_
          refine ev_iload_n rfl hC d_Mod_sheet_72 ?_
          refine ev_iload_n rfl hC d_Mod_sheet_73 ?_
          refine ev_if_ne 81 hC d_Mod_sheet_74 rfl (fun h_74 => ?_) (fun h_74 => ?_)
          · refine ev_iload_n rfl hC d_Mod_sheet_81 ?_
            refine pa_sizes hC d_Mod_sheet_82 (by first | assumption | omega) ?_
            refine ev_iconst (v := nI 0) rfl hC d_Mod_sheet_83 ?_
            refine ev_istore (by decide) hC d_Mod_sheet_84 ?_
            exact absurd h_8 h_74
          · refine ev_iconst (v := 0) rfl hC d_Mod_sheet_77 ?_
            refine ev_goto 82 hC d_Mod_sheet_78 rfl ?_
            refine pa_sizes hC d_Mod_sheet_82 (by first | assumption | omega) ?_
            refine ev_iconst (v := nI 0) rfl hC d_Mod_sheet_83 ?_
            refine ev_istore (by decide) hC d_Mod_sheet_84 ?_
            refine lp_Mod_sheet (f := M.2 4) (by omega) hC hR 40 0 _ (by omega) (by rw [zfR_0]) ?_
            simp only [R_sheet, h_4, hbk, if_pos h_37, if_pos h_51, if_pos h_74, ix, cs, shBR, mJ, mL, wr_s, ud_s, if_true, if_false, cond_true, cond_false, decide_true, decide_false, Bool.not_true, Bool.not_false, Bool.or_true, Bool.true_or, Bool.or_false, Bool.false_or, Bool.and_true, Bool.and_false, Bool.true_and, Bool.false_and, Bool.or_self, Bool.and_self, eq_self]
            exact ⟨trivial, trivial⟩
        · refine ev_aload_n rfl hC d_Mod_sheet_54 ?_
          refine ev_ldc kc_Mod_63 hC d_Mod_sheet_55 ?_
          refine cv_Mod1 hC d_Mod_sheet_57 (c_Mod_finding (k := 0) (by omega) (by decide +kernel)) mi_Mod_finding ml_Mod_82 im_Mod_finding se_Mod_finding rfl ⟨Nat.le_of_ble_eq_true rfl, Nat.le_of_ble_eq_true rfl⟩ ⟨Nat.le_of_ble_eq_true rfl, Nat.le_of_ble_eq_true rfl⟩ rfl rfl (Nat.le_of_ble_eq_true rfl)  ?_
          exact ev_iret hC hR d_Mod_sheet_60 rfl (by simp only [R_sheet, rbad, h_4, hbk, if_pos h_37, if_neg h_51, if_true, if_false, cond_true, cond_false, decide_true, decide_false, Bool.not_true, Bool.not_false, Bool.or_true, Bool.true_or, Bool.or_false, Bool.false_or, Bool.and_true, Bool.and_false, Bool.true_and, Bool.false_and, Bool.or_self, Bool.and_self, eq_self] <;> rfl) (by simp only [R_sheet, rbad, h_4, hbk, if_pos h_37, if_neg h_51, if_true, if_false, cond_true, cond_false, decide_true, decide_false, Bool.not_true, Bool.not_false, Bool.or_true, Bool.true_or, Bool.or_false, Bool.false_or, Bool.and_true, Bool.and_false, Bool.true_and, Bool.false_and, Bool.or_self, Bool.and_self, eq_self] <;> rfl)
      · refine ev_aload_n rfl hC d_Mod_sheet_40 ?_
        refine ev_ldcw kc_Mod_308 hC d_Mod_sheet_41 ?_
        refine cv_Mod1 hC d_Mod_sheet_44 (c_Mod_finding (k := 6) (by omega) (by decide +kernel)) mi_Mod_finding ml_Mod_82 im_Mod_finding se_Mod_finding rfl ⟨Nat.le_of_ble_eq_true rfl, Nat.le_of_ble_eq_true rfl⟩ ⟨Nat.le_of_ble_eq_true rfl, Nat.le_of_ble_eq_true rfl⟩ rfl rfl (Nat.le_of_ble_eq_true rfl)  ?_
        exact ev_iret hC hR d_Mod_sheet_47 rfl (by simp only [R_sheet, rbad, h_4, hbk, if_neg h_37, if_true, if_false, cond_true, cond_false, decide_true, decide_false, Bool.not_true, Bool.not_false, Bool.or_true, Bool.true_or, Bool.or_false, Bool.false_or, Bool.and_true, Bool.and_false, Bool.true_and, Bool.false_and, Bool.or_self, Bool.and_self, eq_self] <;> rfl) (by simp only [R_sheet, rbad, h_4, hbk, if_neg h_37, if_true, if_false, cond_true, cond_false, decide_true, decide_false, Bool.not_true, Bool.not_false, Bool.or_true, Bool.true_or, Bool.or_false, Bool.false_or, Bool.and_true, Bool.and_false, Bool.true_and, Bool.false_and, Bool.or_self, Bool.and_self, eq_self] <;> rfl)
    · refine ev_iload_n rfl hC d_Mod_sheet_11 ?_
      refine ev_bipush (v := 8) rfl hC d_Mod_sheet_12 ?_
      refine ev_icmp_eq 36 hC d_Mod_sheet_14 rfl (fun h_14 => ?_) (fun h_14 => ?_)
      · obtain ⟨s, hs, rfl⟩ := out_nat (n := 3) (by decide) h_4
        have cs : (nI s).toNatClampNeg = s := nI_clamp (by omega)
        have hbk : bitsOk b = true := by simp [bitsOk, h_8, h_14]
        refine ev_iload_n rfl hC d_Mod_sheet_36 ?_
        refine ev_if_ge 48 hC d_Mod_sheet_37 rfl (fun h_37 => ?_) (fun h_37 => ?_)
        · refine ev_iload_n rfl hC d_Mod_sheet_48 ?_
          refine ev_bipush (v := 40) rfl hC d_Mod_sheet_49 ?_
          refine ev_icmp_le 61 hC d_Mod_sheet_51 rfl (fun h_51 => ?_) (fun h_51 => ?_)
          · refine ev_aload_n rfl hC d_Mod_sheet_61 ?_
            refine gv_Mod_widths hC d_Mod_sheet_62 fl_Mod_50  ?_
            refine ev_iload_n rfl hC d_Mod_sheet_65 ?_
            refine ev_iload_n rfl hC d_Mod_sheet_66 ?_
            refine pa_widths hC d_Mod_sheet_67 (by first | assumption | omega) ?_
            refine ev_aload_n rfl hC d_Mod_sheet_68 ?_
            refine gv_Mod_sizes hC d_Mod_sheet_69 fl_Mod_53  ?_
            refine ev_iload_n rfl hC d_Mod_sheet_72 ?_
            refine ev_iload_n rfl hC d_Mod_sheet_73 ?_
            refine ev_if_ne 81 hC d_Mod_sheet_74 rfl (fun h_74 => ?_) (fun h_74 => ?_)
            · refine ev_iload_n rfl hC d_Mod_sheet_81 ?_
              refine pa_sizes hC d_Mod_sheet_82 (by first | assumption | omega) ?_
              refine ev_iconst (v := nI 0) rfl hC d_Mod_sheet_83 ?_
              refine ev_istore (by decide) hC d_Mod_sheet_84 ?_
              refine lp_Mod_sheet (f := M.2 4) (by omega) hC hR 40 0 _ (by omega) (by rw [zfR_0]) ?_
              simp only [R_sheet, h_4, hbk, if_pos h_37, if_pos h_51, if_neg h_74, ix, cs, shBR, mJ, mL, wr_s, ud_s, if_true, if_false, cond_true, cond_false, decide_true, decide_false, Bool.not_true, Bool.not_false, Bool.or_true, Bool.true_or, Bool.or_false, Bool.false_or, Bool.and_true, Bool.and_false, Bool.true_and, Bool.false_and, Bool.or_self, Bool.and_self, eq_self]
              exact ⟨trivial, trivial⟩
            · refine ev_iconst (v := 0) rfl hC d_Mod_sheet_77 ?_
              refine ev_goto 82 hC d_Mod_sheet_78 rfl ?_
              refine pa_sizes hC d_Mod_sheet_82 (by first | assumption | omega) ?_
              refine ev_iconst (v := nI 0) rfl hC d_Mod_sheet_83 ?_
              refine ev_istore (by decide) hC d_Mod_sheet_84 ?_
              exact absurd h_74 h_8
          · refine ev_aload_n rfl hC d_Mod_sheet_54 ?_
            refine ev_ldc kc_Mod_63 hC d_Mod_sheet_55 ?_
            refine cv_Mod1 hC d_Mod_sheet_57 (c_Mod_finding (k := 0) (by omega) (by decide +kernel)) mi_Mod_finding ml_Mod_82 im_Mod_finding se_Mod_finding rfl ⟨Nat.le_of_ble_eq_true rfl, Nat.le_of_ble_eq_true rfl⟩ ⟨Nat.le_of_ble_eq_true rfl, Nat.le_of_ble_eq_true rfl⟩ rfl rfl (Nat.le_of_ble_eq_true rfl)  ?_
            exact ev_iret hC hR d_Mod_sheet_60 rfl (by simp only [R_sheet, rbad, h_4, hbk, if_pos h_37, if_neg h_51, if_true, if_false, cond_true, cond_false, decide_true, decide_false, Bool.not_true, Bool.not_false, Bool.or_true, Bool.true_or, Bool.or_false, Bool.false_or, Bool.and_true, Bool.and_false, Bool.true_and, Bool.false_and, Bool.or_self, Bool.and_self, eq_self] <;> rfl) (by simp only [R_sheet, rbad, h_4, hbk, if_pos h_37, if_neg h_51, if_true, if_false, cond_true, cond_false, decide_true, decide_false, Bool.not_true, Bool.not_false, Bool.or_true, Bool.true_or, Bool.or_false, Bool.false_or, Bool.and_true, Bool.and_false, Bool.true_and, Bool.false_and, Bool.or_self, Bool.and_self, eq_self] <;> rfl)
        · refine ev_aload_n rfl hC d_Mod_sheet_40 ?_
          refine ev_ldcw kc_Mod_308 hC d_Mod_sheet_41 ?_
          refine cv_Mod1 hC d_Mod_sheet_44 (c_Mod_finding (k := 6) (by omega) (by decide +kernel)) mi_Mod_finding ml_Mod_82 im_Mod_finding se_Mod_finding rfl ⟨Nat.le_of_ble_eq_true rfl, Nat.le_of_ble_eq_true rfl⟩ ⟨Nat.le_of_ble_eq_true rfl, Nat.le_of_ble_eq_true rfl⟩ rfl rfl (Nat.le_of_ble_eq_true rfl)  ?_
          exact ev_iret hC hR d_Mod_sheet_47 rfl (by simp only [R_sheet, rbad, h_4, hbk, if_neg h_37, if_true, if_false, cond_true, cond_false, decide_true, decide_false, Bool.not_true, Bool.not_false, Bool.or_true, Bool.true_or, Bool.or_false, Bool.false_or, Bool.and_true, Bool.and_false, Bool.true_and, Bool.false_and, Bool.or_self, Bool.and_self, eq_self] <;> rfl) (by simp only [R_sheet, rbad, h_4, hbk, if_neg h_37, if_true, if_false, cond_true, cond_false, decide_true, decide_false, Bool.not_true, Bool.not_false, Bool.or_true, Bool.true_or, Bool.or_false, Bool.false_or, Bool.and_true, Bool.and_false, Bool.true_and, Bool.false_and, Bool.or_self, Bool.and_self, eq_self] <;> rfl)
      · refine ev_iload_n rfl hC d_Mod_sheet_17 ?_
        refine ev_bipush (v := 16) rfl hC d_Mod_sheet_18 ?_
        refine ev_icmp_eq 36 hC d_Mod_sheet_20 rfl (fun h_20 => ?_) (fun h_20 => ?_)
        · obtain ⟨s, hs, rfl⟩ := out_nat (n := 3) (by decide) h_4
          have cs : (nI s).toNatClampNeg = s := nI_clamp (by omega)
          have hbk : bitsOk b = true := by simp [bitsOk, h_8, h_14, h_20]
          refine ev_iload_n rfl hC d_Mod_sheet_36 ?_
          refine ev_if_ge 48 hC d_Mod_sheet_37 rfl (fun h_37 => ?_) (fun h_37 => ?_)
          · refine ev_iload_n rfl hC d_Mod_sheet_48 ?_
            refine ev_bipush (v := 40) rfl hC d_Mod_sheet_49 ?_
            refine ev_icmp_le 61 hC d_Mod_sheet_51 rfl (fun h_51 => ?_) (fun h_51 => ?_)
            · refine ev_aload_n rfl hC d_Mod_sheet_61 ?_
              refine gv_Mod_widths hC d_Mod_sheet_62 fl_Mod_50  ?_
              refine ev_iload_n rfl hC d_Mod_sheet_65 ?_
              refine ev_iload_n rfl hC d_Mod_sheet_66 ?_
              refine pa_widths hC d_Mod_sheet_67 (by first | assumption | omega) ?_
              refine ev_aload_n rfl hC d_Mod_sheet_68 ?_
              refine gv_Mod_sizes hC d_Mod_sheet_69 fl_Mod_53  ?_
              refine ev_iload_n rfl hC d_Mod_sheet_72 ?_
              refine ev_iload_n rfl hC d_Mod_sheet_73 ?_
              refine ev_if_ne 81 hC d_Mod_sheet_74 rfl (fun h_74 => ?_) (fun h_74 => ?_)
              · refine ev_iload_n rfl hC d_Mod_sheet_81 ?_
                refine pa_sizes hC d_Mod_sheet_82 (by first | assumption | omega) ?_
                refine ev_iconst (v := nI 0) rfl hC d_Mod_sheet_83 ?_
                refine ev_istore (by decide) hC d_Mod_sheet_84 ?_
                refine lp_Mod_sheet (f := M.2 4) (by omega) hC hR 40 0 _ (by omega) (by rw [zfR_0]) ?_
                simp only [R_sheet, h_4, hbk, if_pos h_37, if_pos h_51, if_neg h_74, ix, cs, shBR, mJ, mL, wr_s, ud_s, if_true, if_false, cond_true, cond_false, decide_true, decide_false, Bool.not_true, Bool.not_false, Bool.or_true, Bool.true_or, Bool.or_false, Bool.false_or, Bool.and_true, Bool.and_false, Bool.true_and, Bool.false_and, Bool.or_self, Bool.and_self, eq_self]
                exact ⟨trivial, trivial⟩
              · refine ev_iconst (v := 0) rfl hC d_Mod_sheet_77 ?_
                refine ev_goto 82 hC d_Mod_sheet_78 rfl ?_
                refine pa_sizes hC d_Mod_sheet_82 (by first | assumption | omega) ?_
                refine ev_iconst (v := nI 0) rfl hC d_Mod_sheet_83 ?_
                refine ev_istore (by decide) hC d_Mod_sheet_84 ?_
                exact absurd h_74 h_8
            · refine ev_aload_n rfl hC d_Mod_sheet_54 ?_
              refine ev_ldc kc_Mod_63 hC d_Mod_sheet_55 ?_
              refine cv_Mod1 hC d_Mod_sheet_57 (c_Mod_finding (k := 0) (by omega) (by decide +kernel)) mi_Mod_finding ml_Mod_82 im_Mod_finding se_Mod_finding rfl ⟨Nat.le_of_ble_eq_true rfl, Nat.le_of_ble_eq_true rfl⟩ ⟨Nat.le_of_ble_eq_true rfl, Nat.le_of_ble_eq_true rfl⟩ rfl rfl (Nat.le_of_ble_eq_true rfl)  ?_
              exact ev_iret hC hR d_Mod_sheet_60 rfl (by simp only [R_sheet, rbad, h_4, hbk, if_pos h_37, if_neg h_51, if_true, if_false, cond_true, cond_false, decide_true, decide_false, Bool.not_true, Bool.not_false, Bool.or_true, Bool.true_or, Bool.or_false, Bool.false_or, Bool.and_true, Bool.and_false, Bool.true_and, Bool.false_and, Bool.or_self, Bool.and_self, eq_self] <;> rfl) (by simp only [R_sheet, rbad, h_4, hbk, if_pos h_37, if_neg h_51, if_true, if_false, cond_true, cond_false, decide_true, decide_false, Bool.not_true, Bool.not_false, Bool.or_true, Bool.true_or, Bool.or_false, Bool.false_or, Bool.and_true, Bool.and_false, Bool.true_and, Bool.false_and, Bool.or_self, Bool.and_self, eq_self] <;> rfl)
          · refine ev_aload_n rfl hC d_Mod_sheet_40 ?_
            refine ev_ldcw kc_Mod_308 hC d_Mod_sheet_41 ?_
            refine cv_Mod1 hC d_Mod_sheet_44 (c_Mod_finding (k := 6) (by omega) (by decide +kernel)) mi_Mod_finding ml_Mod_82 im_Mod_finding se_Mod_finding rfl ⟨Nat.le_of_ble_eq_true rfl, Nat.le_of_ble_eq_true rfl⟩ ⟨Nat.le_of_ble_eq_true rfl, Nat.le_of_ble_eq_true rfl⟩ rfl rfl (Nat.le_of_ble_eq_true rfl)  ?_
            exact ev_iret hC hR d_Mod_sheet_47 rfl (by simp only [R_sheet, rbad, h_4, hbk, if_neg h_37, if_true, if_false, cond_true, cond_false, decide_true, decide_false, Bool.not_true, Bool.not_false, Bool.or_true, Bool.true_or, Bool.or_false, Bool.false_or, Bool.and_true, Bool.and_false, Bool.true_and, Bool.false_and, Bool.or_self, Bool.and_self, eq_self] <;> rfl) (by simp only [R_sheet, rbad, h_4, hbk, if_neg h_37, if_true, if_false, cond_true, cond_false, decide_true, decide_false, Bool.not_true, Bool.not_false, Bool.or_true, Bool.true_or, Bool.or_false, Bool.false_or, Bool.and_true, Bool.and_false, Bool.true_and, Bool.false_and, Bool.or_self, Bool.and_self, eq_self] <;> rfl)
        · refine ev_iload_n rfl hC d_Mod_sheet_23 ?_
          refine ev_bipush (v := 64) rfl hC d_Mod_sheet_24 ?_
          refine ev_icmp_eq 36 hC d_Mod_sheet_26 rfl (fun h_26 => ?_) (fun h_26 => ?_)
          · obtain ⟨s, hs, rfl⟩ := out_nat (n := 3) (by decide) h_4
            have cs : (nI s).toNatClampNeg = s := nI_clamp (by omega)
            have hbk : bitsOk b = true := by simp [bitsOk, h_8, h_14, h_20, h_26]
            refine ev_iload_n rfl hC d_Mod_sheet_36 ?_
            refine ev_if_ge 48 hC d_Mod_sheet_37 rfl (fun h_37 => ?_) (fun h_37 => ?_)
            · refine ev_iload_n rfl hC d_Mod_sheet_48 ?_
              refine ev_bipush (v := 40) rfl hC d_Mod_sheet_49 ?_
              refine ev_icmp_le 61 hC d_Mod_sheet_51 rfl (fun h_51 => ?_) (fun h_51 => ?_)
              · refine ev_aload_n rfl hC d_Mod_sheet_61 ?_
                refine gv_Mod_widths hC d_Mod_sheet_62 fl_Mod_50  ?_
                refine ev_iload_n rfl hC d_Mod_sheet_65 ?_
                refine ev_iload_n rfl hC d_Mod_sheet_66 ?_
                refine pa_widths hC d_Mod_sheet_67 (by first | assumption | omega) ?_
                refine ev_aload_n rfl hC d_Mod_sheet_68 ?_
                refine gv_Mod_sizes hC d_Mod_sheet_69 fl_Mod_53  ?_
                refine ev_iload_n rfl hC d_Mod_sheet_72 ?_
                refine ev_iload_n rfl hC d_Mod_sheet_73 ?_
                refine ev_if_ne 81 hC d_Mod_sheet_74 rfl (fun h_74 => ?_) (fun h_74 => ?_)
                · refine ev_iload_n rfl hC d_Mod_sheet_81 ?_
                  refine pa_sizes hC d_Mod_sheet_82 (by first | assumption | omega) ?_
                  refine ev_iconst (v := nI 0) rfl hC d_Mod_sheet_83 ?_
                  refine ev_istore (by decide) hC d_Mod_sheet_84 ?_
                  refine lp_Mod_sheet (f := M.2 4) (by omega) hC hR 40 0 _ (by omega) (by rw [zfR_0]) ?_
                  simp only [R_sheet, h_4, hbk, if_pos h_37, if_pos h_51, if_neg h_74, ix, cs, shBR, mJ, mL, wr_s, ud_s, if_true, if_false, cond_true, cond_false, decide_true, decide_false, Bool.not_true, Bool.not_false, Bool.or_true, Bool.true_or, Bool.or_false, Bool.false_or, Bool.and_true, Bool.and_false, Bool.true_and, Bool.false_and, Bool.or_self, Bool.and_self, eq_self]
                  exact ⟨trivial, trivial⟩
                · refine ev_iconst (v := 0) rfl hC d_Mod_sheet_77 ?_
                  refine ev_goto 82 hC d_Mod_sheet_78 rfl ?_
                  refine pa_sizes hC d_Mod_sheet_82 (by first | assumption | omega) ?_
                  refine ev_iconst (v := nI 0) rfl hC d_Mod_sheet_83 ?_
                  refine ev_istore (by decide) hC d_Mod_sheet_84 ?_
                  exact absurd h_74 h_8
              · refine ev_aload_n rfl hC d_Mod_sheet_54 ?_
                refine ev_ldc kc_Mod_63 hC d_Mod_sheet_55 ?_
                refine cv_Mod1 hC d_Mod_sheet_57 (c_Mod_finding (k := 0) (by omega) (by decide +kernel)) mi_Mod_finding ml_Mod_82 im_Mod_finding se_Mod_finding rfl ⟨Nat.le_of_ble_eq_true rfl, Nat.le_of_ble_eq_true rfl⟩ ⟨Nat.le_of_ble_eq_true rfl, Nat.le_of_ble_eq_true rfl⟩ rfl rfl (Nat.le_of_ble_eq_true rfl)  ?_
                exact ev_iret hC hR d_Mod_sheet_60 rfl (by simp only [R_sheet, rbad, h_4, hbk, if_pos h_37, if_neg h_51, if_true, if_false, cond_true, cond_false, decide_true, decide_false, Bool.not_true, Bool.not_false, Bool.or_true, Bool.true_or, Bool.or_false, Bool.false_or, Bool.and_true, Bool.and_false, Bool.true_and, Bool.false_and, Bool.or_self, Bool.and_self, eq_self] <;> rfl) (by simp only [R_sheet, rbad, h_4, hbk, if_pos h_37, if_neg h_51, if_true, if_false, cond_true, cond_false, decide_true, decide_false, Bool.not_true, Bool.not_false, Bool.or_true, Bool.true_or, Bool.or_false, Bool.false_or, Bool.and_true, Bool.and_false, Bool.true_and, Bool.false_and, Bool.or_self, Bool.and_self, eq_self] <;> rfl)
            · refine ev_aload_n rfl hC d_Mod_sheet_40 ?_
              refine ev_ldcw kc_Mod_308 hC d_Mod_sheet_41 ?_
              refine cv_Mod1 hC d_Mod_sheet_44 (c_Mod_finding (k := 6) (by omega) (by decide +kernel)) mi_Mod_finding ml_Mod_82 im_Mod_finding se_Mod_finding rfl ⟨Nat.le_of_ble_eq_true rfl, Nat.le_of_ble_eq_true rfl⟩ ⟨Nat.le_of_ble_eq_true rfl, Nat.le_of_ble_eq_true rfl⟩ rfl rfl (Nat.le_of_ble_eq_true rfl)  ?_
              exact ev_iret hC hR d_Mod_sheet_47 rfl (by simp only [R_sheet, rbad, h_4, hbk, if_neg h_37, if_true, if_false, cond_true, cond_false, decide_true, decide_false, Bool.not_true, Bool.not_false, Bool.or_true, Bool.true_or, Bool.or_false, Bool.false_or, Bool.and_true, Bool.and_false, Bool.true_and, Bool.false_and, Bool.or_self, Bool.and_self, eq_self] <;> rfl) (by simp only [R_sheet, rbad, h_4, hbk, if_neg h_37, if_true, if_false, cond_true, cond_false, decide_true, decide_false, Bool.not_true, Bool.not_false, Bool.or_true, Bool.true_or, Bool.or_false, Bool.false_or, Bool.and_true, Bool.and_false, Bool.true_and, Bool.false_and, Bool.or_self, Bool.and_self, eq_self] <;> rfl)
          · refine ev_aload_n rfl hC d_Mod_sheet_29 ?_
            refine ev_ldc kc_Mod_63 hC d_Mod_sheet_30 ?_
            refine cv_Mod1 hC d_Mod_sheet_32 (c_Mod_finding (k := 0) (by omega) (by decide +kernel)) mi_Mod_finding ml_Mod_82 im_Mod_finding se_Mod_finding rfl ⟨Nat.le_of_ble_eq_true rfl, Nat.le_of_ble_eq_true rfl⟩ ⟨Nat.le_of_ble_eq_true rfl, Nat.le_of_ble_eq_true rfl⟩ rfl rfl (Nat.le_of_ble_eq_true rfl)  ?_
            exact ev_iret hC hR d_Mod_sheet_35 rfl (by simp only [R_sheet, bitsOk, rbad, h_4, h_8, h_14, h_20, h_26, if_true, if_false, cond_true, cond_false, decide_true, decide_false, Bool.not_true, Bool.not_false, Bool.or_true, Bool.true_or, Bool.or_false, Bool.false_or, Bool.and_true, Bool.and_false, Bool.true_and, Bool.false_and, Bool.or_self, Bool.and_self, eq_self] <;> rfl) (by simp only [R_sheet, bitsOk, rbad, h_4, h_8, h_14, h_20, h_26, if_true, if_false, cond_true, cond_false, decide_true, decide_false, Bool.not_true, Bool.not_false, Bool.or_true, Bool.true_or, Bool.or_false, Bool.false_or, Bool.and_true, Bool.and_false, Bool.true_and, Bool.false_and, Bool.or_self, Bool.and_self, eq_self] <;> rfl)

set_option maxHeartbeats 2000000 in
set_option maxRecDepth 10000 in
theorem c_Mod_cutTo {G : ex_G} {M : ex_M} {b : Int32} {v : Int64} : Con G Y_Mod_cutTo 0 0 0 0 [.long v, .int b] (ce G M) (some (.long (ctI b v))) (ce G (M)) := by
  refine Con.ofF (plainFor_of_name (by decide +kernel)) (Nat.le_of_ble_eq_true rfl) (fun C hC hR => ?_)
  show Ev G C Y_Mod_cutTo 0 [some (.long v), none, some (.int b)] [] 0 0 (ce G M)
  refine ev_iload_n rfl hC d_Mod_cutTo_0 ?_
  refine ev_bipush (v := 8) rfl hC d_Mod_cutTo_1 ?_
  refine ev_icmp_ne 13 hC d_Mod_cutTo_3 rfl (fun h_3 => ?_) (fun h_3 => ?_)
  · refine ev_iload_n rfl hC d_Mod_cutTo_13 ?_
    refine ev_bipush (v := 16) rfl hC d_Mod_cutTo_14 ?_
    refine ev_icmp_ne 26 hC d_Mod_cutTo_16 rfl (fun h_16 => ?_) (fun h_16 => ?_)
    · refine ev_lload_n rfl hC d_Mod_cutTo_26 ?_
      exact ev_lret hC hR d_Mod_cutTo_27 rfl (by rw [ctI, if_neg h_3, if_neg h_16]) (rfl)
    · refine ev_lload_n rfl hC d_Mod_cutTo_19 ?_
      refine ev_l2i hC d_Mod_cutTo_20 ?_
      refine ev_i2s hC d_Mod_cutTo_21 ?_
      refine ev_i2l hC d_Mod_cutTo_22 ?_
      refine ev_goto 27 hC d_Mod_cutTo_23 rfl ?_
      exact ev_lret hC hR d_Mod_cutTo_27 rfl (by rw [ctI, if_neg h_3, if_pos h_16]) (rfl)
  · refine ev_lload_n rfl hC d_Mod_cutTo_6 ?_
    refine ev_l2i hC d_Mod_cutTo_7 ?_
    refine ev_i2b hC d_Mod_cutTo_8 ?_
    refine ev_i2l hC d_Mod_cutTo_9 ?_
    refine ev_goto 27 hC d_Mod_cutTo_10 rfl ?_
    exact ev_lret hC hR d_Mod_cutTo_27 rfl (by rw [ctI, if_pos h_3]) (rfl)

set_option maxHeartbeats 2000000 in
set_option maxRecDepth 10000 in
theorem c_Mod_write {G : ex_G} {M : ex_M} {x i : Int32} {v : Int64} (ws : WR4 (M.1 18)) : Con G Y_Mod_write 2 42 0 0 [.ref (ex_b G + 71), .int x, .int i, .long v] (ce G M) (some (.long (R_write M x i v).1)) (ce G ((R_write M x i v).2)) := by
  refine Con.ofF (plainFor_of_name (by decide +kernel)) (Nat.le_of_ble_eq_true rfl) (fun C hC hR => ?_)
  show Ev G C Y_Mod_write 0 [some (.ref (ex_b G + 71)), some (.int x), some (.int i), some (.long v), none] [] 0 0 (ce G M)
  refine ev_iload_n rfl hC d_Mod_write_0 ?_
  refine cs_1 hC d_Mod_write_1 (c_Mod_isSheet ) mi_Mod_isSheet ml_Mod_305 sm_Mod_isSheet ⟨Nat.le_of_ble_eq_true rfl, Nat.le_of_ble_eq_true rfl⟩ ⟨Nat.le_of_ble_eq_true rfl, Nat.le_of_ble_eq_true rfl⟩ rfl rfl (Nat.le_of_ble_eq_true rfl) ?_
  refine en_ne 15 hC d_Mod_write_4 rfl (fun h_4 => ?_) (fun h_4 => ?_)
  · obtain ⟨s, hs, rfl⟩ := out_nat (n := 3) (by decide) h_4
    have cs : (nI s).toNatClampNeg = s := nI_clamp (by omega)
    have hs : s < 4 := by omega
    obtain ⟨l, hl, el⟩ := ws s hs
    refine ev_aload_n rfl hC d_Mod_write_15 ?_
    refine gv_Mod_widths hC d_Mod_write_16 fl_Mod_50  ?_
    refine ev_iload_n rfl hC d_Mod_write_19 ?_
    refine ga_widths hC d_Mod_write_20 (by first | assumption | omega) ?_
    refine ev_if_ne 33 hC d_Mod_write_21 rfl (fun h_21 => ?_) (fun h_21 => ?_)
    · refine ev_iload_n rfl hC d_Mod_write_33 ?_
      refine ev_iconst (v := 0) rfl hC d_Mod_write_34 ?_
      refine ev_aload_n rfl hC d_Mod_write_35 ?_
      refine gv_Mod_sizes hC d_Mod_write_36 fl_Mod_53  ?_
      refine ev_iload_n rfl hC d_Mod_write_39 ?_
      refine ga_sizes hC d_Mod_write_40 (by first | assumption | omega) ?_
      refine ev_iconst (v := 1) rfl hC d_Mod_write_41 ?_
      refine ev_isub hC d_Mod_write_42 ?_
      refine cs_1 hC d_Mod_write_43 (c_Mod_within ) mi_Mod_within ml_Mod_68 sm_Mod_within ⟨Nat.le_of_ble_eq_true rfl, Nat.le_of_ble_eq_true rfl⟩ ⟨Nat.le_of_ble_eq_true rfl, Nat.le_of_ble_eq_true rfl⟩ rfl rfl (Nat.le_of_ble_eq_true rfl) ?_
      refine en_ne 57 hC d_Mod_write_46 rfl (fun h_46 => ?_) (fun h_46 => ?_)
      · obtain ⟨k, hk, rfl⟩ := out_ix2 el (by omega) h_46
        have ck : (nI k).toNatClampNeg = k := nI_clamp (by omega)
        refine ev_aload_n rfl hC d_Mod_write_57 ?_
        refine gv_Mod_numbers hC d_Mod_write_58 fl_Mod_56  ?_
        refine ev_bipush (v := nI 40) rfl hC d_Mod_write_61 ?_
        refine ev_iload_n rfl hC d_Mod_write_63 ?_
        refine ev_imul hC d_Mod_write_64 ?_
        refine ev_iload_n rfl hC d_Mod_write_65 ?_
        refine ev_iadd hC d_Mod_write_66 ?_
        rw [pk_mul, nI_add]
        refine ga_numbers hC d_Mod_write_67 (by first | assumption | omega) ?_
        refine ev_lstore (by decide) hC d_Mod_write_68 ?_
        refine ev_aload_n rfl hC d_Mod_write_70 ?_
        refine gv_Mod_numbers hC d_Mod_write_71 fl_Mod_56  ?_
        refine ev_bipush (v := nI 40) rfl hC d_Mod_write_74 ?_
        refine ev_iload_n rfl hC d_Mod_write_76 ?_
        refine ev_imul hC d_Mod_write_77 ?_
        refine ev_iload_n rfl hC d_Mod_write_78 ?_
        refine ev_iadd hC d_Mod_write_79 ?_
        rw [pk_mul, nI_add]
        refine ev_lload_n rfl hC d_Mod_write_80 ?_
        refine ev_aload_n rfl hC d_Mod_write_81 ?_
        refine gv_Mod_widths hC d_Mod_write_82 fl_Mod_50  ?_
        refine ev_iload_n rfl hC d_Mod_write_85 ?_
        refine ga_widths hC d_Mod_write_86 (by first | assumption | omega) ?_
        refine cs_1 hC d_Mod_write_87 (c_Mod_cutTo ) mi_Mod_cutTo ml_Mod_310 sm_Mod_cutTo ⟨Nat.le_of_ble_eq_true rfl, Nat.le_of_ble_eq_true rfl⟩ ⟨Nat.le_of_ble_eq_true rfl, Nat.le_of_ble_eq_true rfl⟩ rfl rfl (Nat.le_of_ble_eq_true rfl) ?_
        refine pa_numbers hC d_Mod_write_90 (by first | assumption | omega) ?_
        refine ev_lload rfl hC d_Mod_write_91 ?_
        exact ev_lret hC hR d_Mod_write_93 rfl (by simp only [R_write, h_4, ix, cs, ck, if_neg h_21, h_46, cond_false]) (by simp only [R_write, h_4, ix, cs, ck, if_neg h_21, h_46, cond_false, putR])
      · refine ev_aload_n rfl hC d_Mod_write_49 ?_
        refine ev_ldc kc_Mod_63 hC d_Mod_write_50 ?_
        refine cv_Mod1 hC d_Mod_write_52 (c_Mod_finding (k := 0) (by omega) (by decide +kernel)) mi_Mod_finding ml_Mod_82 im_Mod_finding se_Mod_finding rfl ⟨Nat.le_of_ble_eq_true rfl, Nat.le_of_ble_eq_true rfl⟩ ⟨Nat.le_of_ble_eq_true rfl, Nat.le_of_ble_eq_true rfl⟩ rfl rfl (Nat.le_of_ble_eq_true rfl)  ?_
        refine ev_i2l hC d_Mod_write_55 ?_
        exact ev_lret hC hR d_Mod_write_56 rfl (by simp only [R_write, h_4, ix, cs, if_neg h_21, h_46, cond_false, cond_true] <;> rfl) (by simp only [R_write, h_4, ix, cs, if_neg h_21, h_46, cond_false, cond_true])
    · refine ev_aload_n rfl hC d_Mod_write_24 ?_
      refine ev_ldcw kc_Mod_309 hC d_Mod_write_25 ?_
      refine cv_Mod1 hC d_Mod_write_28 (c_Mod_finding (k := 5) (by omega) (by decide +kernel)) mi_Mod_finding ml_Mod_82 im_Mod_finding se_Mod_finding rfl ⟨Nat.le_of_ble_eq_true rfl, Nat.le_of_ble_eq_true rfl⟩ ⟨Nat.le_of_ble_eq_true rfl, Nat.le_of_ble_eq_true rfl⟩ rfl rfl (Nat.le_of_ble_eq_true rfl)  ?_
      refine ev_i2l hC d_Mod_write_31 ?_
      exact ev_lret hC hR d_Mod_write_32 rfl (by simp only [R_write, h_4, ix, cs, if_pos h_21, cond_false] <;> rfl) (by simp only [R_write, h_4, ix, cs, if_pos h_21, cond_false])
  · refine ev_aload_n rfl hC d_Mod_write_7 ?_
    refine ev_ldc kc_Mod_63 hC d_Mod_write_8 ?_
    refine cv_Mod1 hC d_Mod_write_10 (c_Mod_finding (k := 0) (by omega) (by decide +kernel)) mi_Mod_finding ml_Mod_82 im_Mod_finding se_Mod_finding rfl ⟨Nat.le_of_ble_eq_true rfl, Nat.le_of_ble_eq_true rfl⟩ ⟨Nat.le_of_ble_eq_true rfl, Nat.le_of_ble_eq_true rfl⟩ rfl rfl (Nat.le_of_ble_eq_true rfl)  ?_
    refine ev_i2l hC d_Mod_write_13 ?_
    exact ev_lret hC hR d_Mod_write_14 rfl (by simp only [R_write, h_4, cond_true] <;> rfl) (by simp only [R_write, h_4, cond_true])

set_option maxHeartbeats 2000000 in
set_option maxRecDepth 10000 in
theorem c_Mod_lacks {G : ex_G} {M : ex_M} {x : Int32} : Con G Y_Mod_lacks 2 42 0 0 [.ref (ex_b G + 71), .int x] (ce G M) (some (.int (foR M x))) (ce G (M)) := by
  refine Con.ofF (plainFor_of_name (by decide +kernel)) (Nat.le_of_ble_eq_true rfl) (fun C hC hR => ?_)
  show Ev G C Y_Mod_lacks 0 [some (.ref (ex_b G + 71)), some (.int x)] [] 0 0 (ce G M)
  refine ev_iload_n rfl hC d_Mod_lacks_0 ?_
  refine cs_1 hC d_Mod_lacks_1 (c_Mod_isSheet ) mi_Mod_isSheet ml_Mod_305 sm_Mod_isSheet ⟨Nat.le_of_ble_eq_true rfl, Nat.le_of_ble_eq_true rfl⟩ ⟨Nat.le_of_ble_eq_true rfl, Nat.le_of_ble_eq_true rfl⟩ rfl rfl (Nat.le_of_ble_eq_true rfl) ?_
  refine en_ne 12 hC d_Mod_lacks_4 rfl (fun h_4 => ?_) (fun h_4 => ?_)
  · obtain ⟨s, hs, rfl⟩ := out_nat (n := 3) (by decide) h_4
    have cs : (nI s).toNatClampNeg = s := nI_clamp (by omega)
    have hs : s < 4 := by omega
    refine ev_aload_n rfl hC d_Mod_lacks_12 ?_
    refine gv_Mod_widths hC d_Mod_lacks_13 fl_Mod_50  ?_
    refine ev_iload_n rfl hC d_Mod_lacks_16 ?_
    refine ga_widths hC d_Mod_lacks_17 (by first | assumption | omega) ?_
    refine ev_if_ne 27 hC d_Mod_lacks_18 rfl (fun h_18 => ?_) (fun h_18 => ?_)
    · refine ev_iconst (v := 0) rfl hC d_Mod_lacks_27 ?_
      exact ev_iret hC hR d_Mod_lacks_28 rfl (by simp only [foR, h_4, ix, cs, if_neg h_18, cond_false] <;> rfl) (rfl)
    · refine ev_ldcw kc_Mod_309 hC d_Mod_lacks_21 ?_
      refine ev_goto 28 hC d_Mod_lacks_24 rfl ?_
      exact ev_iret hC hR d_Mod_lacks_28 rfl (by simp only [foR, h_4, ix, cs, if_pos h_18, cond_false] <;> rfl) (rfl)
  · refine ev_ldc kc_Mod_63 hC d_Mod_lacks_7 ?_
    refine ev_goto 28 hC d_Mod_lacks_9 rfl ?_
    exact ev_iret hC hR d_Mod_lacks_28 rfl (by simp only [foR, h_4, cond_true] <;> rfl) (rfl)

set_option maxHeartbeats 4000000 in
set_option maxRecDepth 10000 in
theorem lp_Mod_lays {G : ex_G} {C : ex_C} {rr : Option Value} {ee : List va_E} {s l np : Nat} (hs : s < 4) (hl : l ≤ 40) (hn : np ≤ 8) (hC : Cx G C Y_Mod_lays { frames := 3, cells := 0, slots := 0, locals := 63 }) (hR : Cr G C Y_Mod_lays 0 0 rr ee) :
    ∀ (m i : Nat) (M : ex_M) (c0 : Int32), i + m = min l np → M.1 18 s = nI l ∧ M.1 10 3 = nI np → rr = some (.int (layL (nmR M s) m i c0 (M.1 10)).1) ∧ ee = ce G (mI M 10 (layL (nmR M s) m i c0 (M.1 10)).2) → Ev G C Y_Mod_lays 22 [some (.ref (ex_b G + 71)), some (.int (nI s)), some (.int c0), some (.int (nI i))] [] 0 0 (ce G (M)) := by
  intro m
  induction m with
  | zero =>
    intro i M c0 hm hc he
    refine ev_iload_n rfl hC d_Mod_lays_22 ?_
    refine ev_aload_n rfl hC d_Mod_lays_23 ?_
    refine gv_Mod_sizes hC d_Mod_lays_24 fl_Mod_53  ?_
    refine ev_iload_n rfl hC d_Mod_lays_27 ?_
    refine ga_sizes hC d_Mod_lays_28 (by first | assumption | omega) ?_
    refine ev_icmp_ge 93 hC d_Mod_lays_29 rfl (fun h_29 => ?_) (fun h_29 => ?_)
    · refine ev_iload_n rfl hC d_Mod_lays_93 ?_
      exact ev_iret hC hR d_Mod_lays_94 rfl (by rw [he.1, layL]) (by rw [he.2, layL, mI_id])
    · refine ev_iload_n rfl hC d_Mod_lays_32 ?_
      refine ev_aload_n rfl hC d_Mod_lays_33 ?_
      refine gv_Mod_now hC d_Mod_lays_34 fl_Mod_9  ?_
      refine ev_iconst (v := nI 3) rfl hC d_Mod_lays_37 ?_
      refine ga_now hC d_Mod_lays_38 (by first | assumption | omega) ?_
      refine ev_icmp_ge 93 hC d_Mod_lays_39 rfl (fun _ => ?_) (fun h => absurd (by rw [hc.2]; exact nI_le ((Nat.lt_or_ge i l).elim (fun hz => by omega) (fun hz => absurd (by rw [hc.1]; exact nI_le hz (by omega)) h_29)) (by omega)) h)
      refine ev_iload_n rfl hC d_Mod_lays_93 ?_
      exact ev_iret hC hR d_Mod_lays_94 rfl (by rw [he.1, layL]) (by rw [he.2, layL, mI_id])
  | succ m ih =>
    intro i M c0 hm hc he
    have hi : i < 8 := by omega
    refine ev_iload_n rfl hC d_Mod_lays_22 ?_
    refine ev_aload_n rfl hC d_Mod_lays_23 ?_
    refine gv_Mod_sizes hC d_Mod_lays_24 fl_Mod_53  ?_
    refine ev_iload_n rfl hC d_Mod_lays_27 ?_
    refine ga_sizes hC d_Mod_lays_28 (by first | assumption | omega) ?_
    refine ev_icmp_ge 93 hC d_Mod_lays_29 rfl (fun h => absurd h (by rw [hc.1]; exact nI_ge (by omega) (by omega))) (fun _ => ?_)
    refine ev_iload_n rfl hC d_Mod_lays_32 ?_
    refine ev_aload_n rfl hC d_Mod_lays_33 ?_
    refine gv_Mod_now hC d_Mod_lays_34 fl_Mod_9  ?_
    refine ev_iconst (v := nI 3) rfl hC d_Mod_lays_37 ?_
    refine ga_now hC d_Mod_lays_38 (by first | assumption | omega) ?_
    refine ev_icmp_ge 93 hC d_Mod_lays_39 rfl (fun h => absurd h (by rw [hc.2]; exact nI_ge (by omega) (by omega))) (fun _ => ?_)
    refine ev_aload_n rfl hC d_Mod_lays_42 ?_
    refine gv_Mod_numbers hC d_Mod_lays_43 fl_Mod_56  ?_
    refine ev_bipush (v := nI 40) rfl hC d_Mod_lays_46 ?_
    refine ev_iload_n rfl hC d_Mod_lays_48 ?_
    refine ev_imul hC d_Mod_lays_49 ?_
    refine ev_iload_n rfl hC d_Mod_lays_50 ?_
    refine ev_iadd hC d_Mod_lays_51 ?_
    rw [pk_mul, nI_add]
    refine ga_numbers hC d_Mod_lays_52 (by first | assumption | omega) ?_
    refine ev_lstore (by decide) hC d_Mod_lays_53 ?_
    refine ev_lload rfl hC d_Mod_lays_55 ?_
    refine ev_lconst (v := 0) rfl hC d_Mod_lays_57 ?_
    refine ev_lcmp hC d_Mod_lays_58 ?_
    refine ev_if_lt 87 hC d_Mod_lays_59 rfl (fun h_59 => ?_) (fun h_59 => ?_)
    · refine ev_iinc rfl (by decide) (nI_1 _) hC d_Mod_lays_87 ?_
      refine ev_goto 22 hC d_Mod_lays_90 rfl ?_
      refine Ev.take 4 ?_
      refine ih (i + 1) M _ (by omega) hc ?_
      rw [he.1, he.2, show layL (nmR M s) (m + 1) i c0 (M.1 10) = layL (nmR M s) m (i + 1) c0 (M.1 10) from if_pos (Or.inl ((lg_cmp_lt _ _).mp h_59))]
      exact ⟨rfl, rfl⟩
    · refine ev_lload rfl hC d_Mod_lays_62 ?_
      refine ev_ldc2 kc_Mod_317 hC d_Mod_lays_64 ?_
      refine ev_lcmp hC d_Mod_lays_67 ?_
      refine ev_if_gt 87 hC d_Mod_lays_68 rfl (fun h_68 => ?_) (fun h_68 => ?_)
      · refine ev_iinc rfl (by decide) (nI_1 _) hC d_Mod_lays_87 ?_
        refine ev_goto 22 hC d_Mod_lays_90 rfl ?_
        refine Ev.take 4 ?_
        refine ih (i + 1) M _ (by omega) hc ?_
        rw [he.1, he.2, show layL (nmR M s) (m + 1) i c0 (M.1 10) = layL (nmR M s) m (i + 1) c0 (M.1 10) from if_pos (Or.inr ((lg_cmp_gt _ _).mp h_68))]
        exact ⟨rfl, rfl⟩
      · refine ev_aload_n rfl hC d_Mod_lays_71 ?_
        refine gv_Mod_now hC d_Mod_lays_72 fl_Mod_9  ?_
        refine ev_iload_n rfl hC d_Mod_lays_75 ?_
        refine ev_iconst (v := nI 2) rfl hC d_Mod_lays_76 ?_
        refine cs_1 hC d_Mod_lays_77 (c_Mod_at) mi_Mod_at ml_Mod_76 sm_Mod_at ⟨Nat.le_of_ble_eq_true rfl, Nat.le_of_ble_eq_true rfl⟩ ⟨Nat.le_of_ble_eq_true rfl, Nat.le_of_ble_eq_true rfl⟩ rfl rfl (Nat.le_of_ble_eq_true rfl) ?_
        refine ev_lload rfl hC d_Mod_lays_80 ?_
        refine ev_l2i hC d_Mod_lays_82 ?_
        refine pa_now hC d_Mod_lays_83 (by first | assumption | omega) ?_
        refine ev_iinc rfl (by decide) rfl hC d_Mod_lays_84 ?_
        refine ev_iinc rfl (by decide) (nI_1 _) hC d_Mod_lays_87 ?_
        refine ev_goto 22 hC d_Mod_lays_90 rfl ?_
        refine Ev.take 4 ?_
        refine ih (i + 1) _ _ (by omega) ⟨by simp only [mJ]; rw [wr_n (by decide)]; exact hc.1, by simp only [mJ, wr_s]; rw [ud_n (by omega)]; exact hc.2⟩ ?_
        rw [he.1, he.2, show layL (nmR M s) (m + 1) i c0 (M.1 10) = layL (nmR M s) m (i + 1) (c0 + 1) (upd (M.1 10) (28 + 7 * i + 2) (M.2 4 (40 * s + i)).toInt32) from if_neg (fun z => z.elim (fun a => h_59 ((lg_cmp_lt _ _).mpr a)) (fun a => h_68 ((lg_cmp_gt _ _).mpr a)))]
        simp only [nmR, mI, mJ, wr_wr, wr_s]
        exact ⟨rfl, rfl⟩

set_option maxHeartbeats 2000000 in
set_option maxRecDepth 10000 in
theorem c_Mod_lays {G : ex_G} {M : ex_M} {np l : Nat} {x : Int32} (hn : np ≤ 8) (hc : M.1 10 3 = nI np) (hl0 : ∀ s, s < 4 → x = nI s → l ≤ 40 ∧ M.1 18 s = nI l) : Con G Y_Mod_lays 3 63 0 0 [.ref (ex_b G + 71), .int x] (ce G M) (some (.int (R_lays M np l x).1)) (ce G ((R_lays M np l x).2)) := by
  refine Con.ofF (plainFor_of_name (by decide +kernel)) (Nat.le_of_ble_eq_true rfl) (fun C hC hR => ?_)
  show Ev G C Y_Mod_lays 0 [some (.ref (ex_b G + 71)), some (.int x)] [] 0 0 (ce G M)
  refine ev_aload_n rfl hC d_Mod_lays_0 ?_
  refine ev_iload_n rfl hC d_Mod_lays_1 ?_
  refine cv_Mod1 hC d_Mod_lays_2 (c_Mod_lacks ) mi_Mod_lacks ml_Mod_314 im_Mod_lacks se_Mod_lacks rfl ⟨Nat.le_of_ble_eq_true rfl, Nat.le_of_ble_eq_true rfl⟩ ⟨Nat.le_of_ble_eq_true rfl, Nat.le_of_ble_eq_true rfl⟩ rfl rfl (Nat.le_of_ble_eq_true rfl)  ?_
  refine ev_if_eq 18 hC d_Mod_lays_5 rfl (fun h_5 => ?_) (fun h_5 => ?_)
  · obtain ⟨s, hs, rfl, hms⟩ := foR_0 h_5
    have cs : (nI s).toNatClampNeg = s := nI_clamp (by omega)
    obtain ⟨hl, el⟩ := hl0 s hs rfl
    refine ev_iconst (v := 0) rfl hC d_Mod_lays_18 ?_
    refine ev_istore_n (by decide) hC d_Mod_lays_19 ?_
    refine ev_iconst (v := nI 0) rfl hC d_Mod_lays_20 ?_
    refine ev_istore_n (by decide) hC d_Mod_lays_21 ?_
    refine lp_Mod_lays hs hl hn hC hR (min l np) 0 M 0 (by omega) ⟨el, hc⟩ ?_
    rw [R_lays, if_pos h_5]
    simp only [ix, cs]
    exact ⟨trivial, trivial⟩
  · refine ev_aload_n rfl hC d_Mod_lays_8 ?_
    refine ev_aload_n rfl hC d_Mod_lays_9 ?_
    refine ev_iload_n rfl hC d_Mod_lays_10 ?_
    refine cv_Mod1 hC d_Mod_lays_11 (c_Mod_lacks ) mi_Mod_lacks ml_Mod_314 im_Mod_lacks se_Mod_lacks rfl ⟨Nat.le_of_ble_eq_true rfl, Nat.le_of_ble_eq_true rfl⟩ ⟨Nat.le_of_ble_eq_true rfl, Nat.le_of_ble_eq_true rfl⟩ rfl rfl (Nat.le_of_ble_eq_true rfl)  ?_
    refine cv_Mod1 hC d_Mod_lays_14 (c_Mod_finding_fo (foR_n h_5)) mi_Mod_finding ml_Mod_82 im_Mod_finding se_Mod_finding rfl ⟨Nat.le_of_ble_eq_true rfl, Nat.le_of_ble_eq_true rfl⟩ ⟨Nat.le_of_ble_eq_true rfl, Nat.le_of_ble_eq_true rfl⟩ rfl rfl (Nat.le_of_ble_eq_true rfl)  ?_
    exact ev_iret hC hR d_Mod_lays_17 rfl (by rw [R_lays, if_neg h_5]) (by rw [R_lays, if_neg h_5])

set_option maxHeartbeats 4000000 in
set_option maxRecDepth 10000 in
theorem lp_Mod_book {G : ex_G} {C : ex_C} {rr : Option Value} {ee : List va_E} {aw : Int32} {n ne j s l : Nat} (hj : j < 8) (hs : s < 4) (hl : l ≤ 40) (hC : Cx G C Y_Mod_book { frames := 5, cells := 0, slots := 0, locals := 112 }) (hR : Cr G C Y_Mod_book 0 0 rr ee) :
    ∀ (m i : Nat) (M : ex_M), i + m = l → (M.1 14 1 = aw ∧ HK (M.1 10) n ne) ∧ M.1 18 s = nI l → rr = some (.int (nI l)) ∧ ee = ce G (bck (bokR aw n ne j s m i M)) → Ev G C Y_Mod_book 52 [some (.ref (ex_b G + 71)), some (.int (nI s)), some (.int (nI j)), some (.int (nI i))] [] 0 0 (ce G (M)) := by
  intro m
  induction m with
  | zero =>
    intro i M hm hc he
    refine ev_iload_n rfl hC d_Mod_book_52 ?_
    refine ev_aload_n rfl hC d_Mod_book_53 ?_
    refine gv_Mod_sizes hC d_Mod_book_54 fl_Mod_53  ?_
    refine ev_iload_n rfl hC d_Mod_book_57 ?_
    refine ga_sizes hC d_Mod_book_58 (by first | assumption | omega) ?_
    refine ev_icmp_ge 99 hC d_Mod_book_59 rfl (fun _ => ?_) (fun h => absurd (by rw [hc.2]; exact nI_le (by omega) (by omega)) h)
    refine ev_aload_n rfl hC d_Mod_book_99 ?_
    refine ev_aload_n rfl hC d_Mod_book_100 ?_
    refine gv_Mod_sizes hC d_Mod_book_101 fl_Mod_53  ?_
    refine ev_iload_n rfl hC d_Mod_book_104 ?_
    refine ga_sizes hC d_Mod_book_105 (by first | assumption | omega) ?_
    refine cv_Mod1 hC d_Mod_book_106 (c_Mod_putBack ) mi_Mod_putBack ml_Mod_188 im_Mod_putBack se_Mod_putBack rfl ⟨Nat.le_of_ble_eq_true rfl, Nat.le_of_ble_eq_true rfl⟩ ⟨Nat.le_of_ble_eq_true rfl, Nat.le_of_ble_eq_true rfl⟩ rfl rfl (Nat.le_of_ble_eq_true rfl)  ?_
    exact ev_iret hC hR d_Mod_book_109 rfl (by rw [he.1, hc.2]) (by rw [he.2, bokR]; rfl)
  | succ m ih =>
    intro i M hm hc he
    have hi : i < 40 := by omega
    refine ev_iload_n rfl hC d_Mod_book_52 ?_
    refine ev_aload_n rfl hC d_Mod_book_53 ?_
    refine gv_Mod_sizes hC d_Mod_book_54 fl_Mod_53  ?_
    refine ev_iload_n rfl hC d_Mod_book_57 ?_
    refine ga_sizes hC d_Mod_book_58 (by first | assumption | omega) ?_
    refine ev_icmp_ge 99 hC d_Mod_book_59 rfl (fun h => absurd h (by rw [hc.2]; exact nI_ge (by omega) (by omega))) (fun _ => ?_)
    refine ev_aload_n rfl hC d_Mod_book_62 ?_
    refine gv_Mod_numbers hC d_Mod_book_63 fl_Mod_56  ?_
    refine ev_bipush (v := nI 40) rfl hC d_Mod_book_66 ?_
    refine ev_iload_n rfl hC d_Mod_book_68 ?_
    refine ev_imul hC d_Mod_book_69 ?_
    refine ev_iload_n rfl hC d_Mod_book_70 ?_
    refine ev_iadd hC d_Mod_book_71 ?_
    rw [pk_mul, nI_add]
    refine ev_aload_n rfl hC d_Mod_book_72 ?_
    refine ev_iload_n rfl hC d_Mod_book_73 ?_
    refine ev_iconst (v := nI 2) rfl hC d_Mod_book_74 ?_
    refine cv_Mod1 hC d_Mod_book_75 (c_Mod_oneIs hj (by omega)) mi_Mod_oneIs ml_Mod_94 im_Mod_oneIs se_Mod_oneIs rfl ⟨Nat.le_of_ble_eq_true rfl, Nat.le_of_ble_eq_true rfl⟩ ⟨Nat.le_of_ble_eq_true rfl, Nat.le_of_ble_eq_true rfl⟩ rfl rfl (Nat.le_of_ble_eq_true rfl)  ?_
    refine ev_i2l hC d_Mod_book_78 ?_
    refine ev_aload_n rfl hC d_Mod_book_79 ?_
    refine gv_Mod_widths hC d_Mod_book_80 fl_Mod_50  ?_
    refine ev_iload_n rfl hC d_Mod_book_83 ?_
    refine ga_widths hC d_Mod_book_84 (by first | assumption | omega) ?_
    refine cs_1 hC d_Mod_book_85 (c_Mod_cutTo ) mi_Mod_cutTo ml_Mod_310 sm_Mod_cutTo ⟨Nat.le_of_ble_eq_true rfl, Nat.le_of_ble_eq_true rfl⟩ ⟨Nat.le_of_ble_eq_true rfl, Nat.le_of_ble_eq_true rfl⟩ rfl rfl (Nat.le_of_ble_eq_true rfl) ?_
    refine pa_numbers hC d_Mod_book_88 (by first | assumption | omega) ?_
    refine ev_aload_n rfl hC d_Mod_book_89 ?_
    refine cv_Mod0 hC d_Mod_book_90 (c_Mod_hour (aw := aw) (n := n) (ne := ne) hc.1.1 hc.1.2) mi_Mod_hour ml_Mod_172 im_Mod_hour se_Mod_hour rfl ⟨Nat.le_of_ble_eq_true rfl, Nat.le_of_ble_eq_true rfl⟩ ⟨Nat.le_of_ble_eq_true rfl, Nat.le_of_ble_eq_true rfl⟩ rfl rfl (Nat.le_of_ble_eq_true rfl)  ?_
    refine ev_iinc rfl (by decide) (nI_1 _) hC d_Mod_book_93 ?_
    refine ev_goto 52 hC d_Mod_book_96 rfl ?_
    refine ih (i + 1) _ (by omega) ⟨⟨hc.1.1, by simp only [putR, mI, mL, wr_s]; exact HK_hourR hc.1.2⟩, by simp only [mI]; rw [wr_n (by decide)]; exact hc.2⟩ (by rw [he.1, he.2, bokR]; exact ⟨rfl, rfl⟩)

set_option maxHeartbeats 2000000 in
set_option maxRecDepth 10000 in
theorem c_Mod_book {G : ex_G} {M : ex_M} {np ne l : Nat} {x p : Int32} (hl0 : ∀ s, s < 4 → x = nI s → l ≤ 40 ∧ M.1 18 s = nI l) (w : WF (M.1 10) np ne) : Con G Y_Mod_book 5 112 0 0 [.ref (ex_b G + 71), .int x, .int p] (ce G M) (some (.int (R_book M np ne l x p).1)) (ce G ((R_book M np ne l x p).2)) := by
  refine Con.ofF (plainFor_of_name (by decide +kernel)) (Nat.le_of_ble_eq_true rfl) (fun C hC hR => ?_)
  show Ev G C Y_Mod_book 0 [some (.ref (ex_b G + 71)), some (.int x), some (.int p)] [] 0 0 (ce G M)
  obtain ⟨hc, hn, hc2, hn2, hmet, hkd, hkn⟩ := w
  refine ev_aload_n rfl hC d_Mod_book_0 ?_
  refine ev_iload_n rfl hC d_Mod_book_1 ?_
  refine cv_Mod1 hC d_Mod_book_2 (c_Mod_lacks ) mi_Mod_lacks ml_Mod_314 im_Mod_lacks se_Mod_lacks rfl ⟨Nat.le_of_ble_eq_true rfl, Nat.le_of_ble_eq_true rfl⟩ ⟨Nat.le_of_ble_eq_true rfl, Nat.le_of_ble_eq_true rfl⟩ rfl rfl (Nat.le_of_ble_eq_true rfl)  ?_
  refine ev_if_ne 16 hC d_Mod_book_5 rfl (fun h_5 => ?_) (fun h_5 => ?_)
  · refine ev_aload_n rfl hC d_Mod_book_16 ?_
    refine ev_aload_n rfl hC d_Mod_book_17 ?_
    refine ev_iload_n rfl hC d_Mod_book_18 ?_
    refine cv_Mod1 hC d_Mod_book_19 (c_Mod_lacks ) mi_Mod_lacks ml_Mod_314 im_Mod_lacks se_Mod_lacks rfl ⟨Nat.le_of_ble_eq_true rfl, Nat.le_of_ble_eq_true rfl⟩ ⟨Nat.le_of_ble_eq_true rfl, Nat.le_of_ble_eq_true rfl⟩ rfl rfl (Nat.le_of_ble_eq_true rfl)  ?_
    refine ev_if_eq 33 hC d_Mod_book_22 rfl (fun h_22 => ?_) (fun h_22 => ?_)
    · refine ev_ldc kc_Mod_63 hC d_Mod_book_33 ?_
      refine cv_Mod1 hC d_Mod_book_35 (c_Mod_finding (k := 0) (by omega) (by decide +kernel)) mi_Mod_finding ml_Mod_82 im_Mod_finding se_Mod_finding rfl ⟨Nat.le_of_ble_eq_true rfl, Nat.le_of_ble_eq_true rfl⟩ ⟨Nat.le_of_ble_eq_true rfl, Nat.le_of_ble_eq_true rfl⟩ rfl rfl (Nat.le_of_ble_eq_true rfl)  ?_
      exact ev_iret hC hR d_Mod_book_38 rfl (by exact absurd h_22 h_5) (by exact absurd h_22 h_5)
    · refine ev_aload_n rfl hC d_Mod_book_25 ?_
      refine ev_iload_n rfl hC d_Mod_book_26 ?_
      refine cv_Mod1 hC d_Mod_book_27 (c_Mod_lacks ) mi_Mod_lacks ml_Mod_314 im_Mod_lacks se_Mod_lacks rfl ⟨Nat.le_of_ble_eq_true rfl, Nat.le_of_ble_eq_true rfl⟩ ⟨Nat.le_of_ble_eq_true rfl, Nat.le_of_ble_eq_true rfl⟩ rfl rfl (Nat.le_of_ble_eq_true rfl)  ?_
      refine ev_goto 35 hC d_Mod_book_30 rfl ?_
      refine cv_Mod1 hC d_Mod_book_35 (c_Mod_finding_fo (foR_n h_22)) mi_Mod_finding ml_Mod_82 im_Mod_finding se_Mod_finding rfl ⟨Nat.le_of_ble_eq_true rfl, Nat.le_of_ble_eq_true rfl⟩ ⟨Nat.le_of_ble_eq_true rfl, Nat.le_of_ble_eq_true rfl⟩ rfl rfl (Nat.le_of_ble_eq_true rfl)  ?_
      exact ev_iret hC hR d_Mod_book_38 rfl (by rw [R_book, if_neg h_5]) (by rw [R_book, if_neg h_5])
  · refine ev_aload_n rfl hC d_Mod_book_8 ?_
    refine ev_iload_n rfl hC d_Mod_book_9 ?_
    refine cv_Mod1 hC d_Mod_book_10 (c_Mod_isOne ) mi_Mod_isOne ml_Mod_122 im_Mod_isOne se_Mod_isOne rfl ⟨Nat.le_of_ble_eq_true rfl, Nat.le_of_ble_eq_true rfl⟩ ⟨Nat.le_of_ble_eq_true rfl, Nat.le_of_ble_eq_true rfl⟩ rfl rfl (Nat.le_of_ble_eq_true rfl)  ?_
    refine en_ne 39 hC d_Mod_book_13 rfl (fun h_13 => ?_) (fun h_13 => ?_)
    · obtain ⟨s, hs, rfl, hms⟩ := foR_0 h_5
      have cs : (nI s).toNatClampNeg = s := nI_clamp (by omega)
      obtain ⟨hl, el⟩ := hl0 s hs rfl
      obtain ⟨i, hi, rfl⟩ := out_ix hc hn h_13
      have ci : (nI i).toNatClampNeg = i := nI_clamp (by omega)
      refine ev_aload_n rfl hC d_Mod_book_39 ?_
      refine gv_Mod_now hC d_Mod_book_40 fl_Mod_9  ?_
      refine ev_aload_n rfl hC d_Mod_book_43 ?_
      refine gv_Mod_aside hC d_Mod_book_44 fl_Mod_16  ?_
      refine cs_0 hC d_Mod_book_47 (c_cp_na) mi_Mod_copyRow ml_Mod_64 sm_Mod_copyRow ⟨Nat.le_of_ble_eq_true rfl, Nat.le_of_ble_eq_true rfl⟩ ⟨Nat.le_of_ble_eq_true rfl, Nat.le_of_ble_eq_true rfl⟩ rfl rfl (Nat.le_of_ble_eq_true rfl) ?_
      refine ev_iconst (v := nI 0) rfl hC d_Mod_book_50 ?_
      refine ev_istore_n (by decide) hC d_Mod_book_51 ?_
      refine lp_Mod_book (aw := M.1 14 1) (n := np) (ne := ne) (j := i) (by omega) hs hl hC hR l 0 (asd M) (by omega) ⟨⟨by rw [asd_14], by rw [asd_10]; exact (HK_of ⟨hc, hn, hc2, hn2, hmet, hkd, hkn⟩)⟩, by simp only [asd, mI]; rw [wr_n (by decide)]; exact el⟩ ?_
      rw [R_book, if_pos h_5]
      simp only [h_13, ix, ci, cs, cond_false]
      exact ⟨trivial, trivial⟩
    · refine ev_aload_n rfl hC d_Mod_book_16 ?_
      refine ev_aload_n rfl hC d_Mod_book_17 ?_
      refine ev_iload_n rfl hC d_Mod_book_18 ?_
      refine cv_Mod1 hC d_Mod_book_19 (c_Mod_lacks ) mi_Mod_lacks ml_Mod_314 im_Mod_lacks se_Mod_lacks rfl ⟨Nat.le_of_ble_eq_true rfl, Nat.le_of_ble_eq_true rfl⟩ ⟨Nat.le_of_ble_eq_true rfl, Nat.le_of_ble_eq_true rfl⟩ rfl rfl (Nat.le_of_ble_eq_true rfl)  ?_
      refine ev_if_eq 33 hC d_Mod_book_22 rfl (fun h_22 => ?_) (fun h_22 => ?_)
      · refine ev_ldc kc_Mod_63 hC d_Mod_book_33 ?_
        refine cv_Mod1 hC d_Mod_book_35 (c_Mod_finding (k := 0) (by omega) (by decide +kernel)) mi_Mod_finding ml_Mod_82 im_Mod_finding se_Mod_finding rfl ⟨Nat.le_of_ble_eq_true rfl, Nat.le_of_ble_eq_true rfl⟩ ⟨Nat.le_of_ble_eq_true rfl, Nat.le_of_ble_eq_true rfl⟩ rfl rfl (Nat.le_of_ble_eq_true rfl)  ?_
        exact ev_iret hC hR d_Mod_book_38 rfl (by rw [R_book, if_pos h_5]; simp only [h_13, rbad, cond_true] <;> rfl) (by rw [R_book, if_pos h_5]; simp only [h_13, rbad, cond_true])
      · refine ev_aload_n rfl hC d_Mod_book_25 ?_
        refine ev_iload_n rfl hC d_Mod_book_26 ?_
        refine cv_Mod1 hC d_Mod_book_27 (c_Mod_lacks ) mi_Mod_lacks ml_Mod_314 im_Mod_lacks se_Mod_lacks rfl ⟨Nat.le_of_ble_eq_true rfl, Nat.le_of_ble_eq_true rfl⟩ ⟨Nat.le_of_ble_eq_true rfl, Nat.le_of_ble_eq_true rfl⟩ rfl rfl (Nat.le_of_ble_eq_true rfl)  ?_
        refine ev_goto 35 hC d_Mod_book_30 rfl ?_
        refine cv_Mod1 hC d_Mod_book_35 (c_Mod_finding_fo (foR_n h_22)) mi_Mod_finding ml_Mod_82 im_Mod_finding se_Mod_finding rfl ⟨Nat.le_of_ble_eq_true rfl, Nat.le_of_ble_eq_true rfl⟩ ⟨Nat.le_of_ble_eq_true rfl, Nat.le_of_ble_eq_true rfl⟩ rfl rfl (Nat.le_of_ble_eq_true rfl)  ?_
        exact ev_iret hC hR d_Mod_book_38 rfl (by exact absurd h_5 h_22) (by exact absurd h_5 h_22)
