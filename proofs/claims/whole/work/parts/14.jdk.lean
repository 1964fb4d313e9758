def mx (w : Int32) : Int32 := if (0 : Int32) < 2 * w then 2 * w else 0
def gainM (kind w : Int32) (b : Bool) : Int32 :=
  if kind = 1 then (if b then mx w else w + w / 2)
  else if kind = 2 then (if b then mx w - 1 else w / 2)
  else if kind = 5 then (if b then mx w - 1 + 10 else w / 2 + 3)
  else (if b then mx w else w)
def popc (k : Nat) : Nat := (List.range 8).countP (fun i => k.testBit i)
theorem popc_step : ∀ k, k < 256 → k ≠ 0 → (nI k &&& (nI k - 1)) = nI (k &&& (k - 1)) ∧ popc (k &&& (k - 1)) + 1 = popc k ∧ (k &&& (k - 1)) < 256 := by decide +kernel
theorem popc_0 : popc 0 = 0 := by decide +kernel
theorem popc_le (k : Nat) : popc k ≤ 8 := by unfold popc; exact Nat.le_trans List.countP_le_length (by simp)
theorem bitc_all : ∀ k, k < 256 → ∀ x1 : Int32, True → True := fun _ _ _ _ => trivial
def ntz (k : Nat) : Nat := if k.testBit 0 then 0 else if k.testBit 1 then 1 else if k.testBit 2 then 2 else if k.testBit 3 then 3 else if k.testBit 4 then 4 else if k.testBit 5 then 5 else if k.testBit 6 then 6 else 7
def wch (i k : Nat) : Int32 := (ck_byt.getD i []).getD k 0
def wln (i : Nat) : Nat := ck_len.getD i 0
theorem wch_all : ∀ i, i < 14 → ∀ k, k < wln i → ((wch i k &&& 255).toUInt32 % 65536).toInt32 = wch i k ∧ narrow .char (.int (wch i k)) = .int (wch i k) := by decide +kernel
theorem wln_le : ∀ i, i < 14 → wln i ≤ 7 := by decide +kernel

set_option maxHeartbeats 2000000 in
set_option maxRecDepth 10000 in
theorem c_Mod_gainsOf {G : ex_G} {M : ex_M} {k w : Int32} {b : Bool} : Con G Y_Mod_gainsOf 1 21 0 0 [.int k, .int w, .int (bi b)] (ce G M) (some (.int (gainM k w b))) (ce G (M)) := by
  refine Con.ofF (plainFor_of_name (by decide +kernel)) (Nat.le_of_ble_eq_true rfl) (fun C hC hR => ?_)
  show Ev G C Y_Mod_gainsOf 0 [some (.int k), some (.int w), some (.int (bi b))] [] 0 0 (ce G M)
  refine ev_iload_n rfl hC d_Mod_gainsOf_0 ?_
  refine eb_eq 14 hC d_Mod_gainsOf_1 rfl (fun h_1 => ?_) (fun h_1 => ?_)
  · refine ev_iload_n rfl hC d_Mod_gainsOf_14 ?_
    refine ev_istore_n (by decide) hC d_Mod_gainsOf_15 ?_
    refine ev_iload_n rfl hC d_Mod_gainsOf_16 ?_
    refine eb_eq 26 hC d_Mod_gainsOf_17 rfl (fun h_17 => ?_) (fun h_17 => ?_)
    · refine ev_iload_n rfl hC d_Mod_gainsOf_26 ?_
      refine ev_iconst (v := 2) rfl hC d_Mod_gainsOf_27 ?_
      refine ev_idiv (by decide) hC d_Mod_gainsOf_28 ?_
      refine ev_istore (by decide) hC d_Mod_gainsOf_29 ?_
      refine ev_iload_n rfl hC d_Mod_gainsOf_31 ?_
      refine sx_Mod_gainsOf_32 hC (fun h_32 => ?_) (fun h_32 => ?_) (fun h_32 => ?_) (fun h_32 => ?_) (fun h_32 => ?_) (fun h_32 => ?_)
      · refine ev_iload_n rfl hC d_Mod_gainsOf_99 ?_
        exact ev_iret hC hR d_Mod_gainsOf_100 rfl (by cases b <;> first | (exact absurd h_1 (by decide)) | (exact absurd h_17 (by decide)) | (exact absurd h_69 (by decide)) | (exact absurd h_88 (by decide)) | (subst h_32; rfl) | (have e1 := sw_ne h_32 1 (by decide) (by decide); have e2 := sw_ne h_32 2 (by decide) (by decide); have e5 := sw_ne h_32 5 (by decide) (by decide); simp [gainM, e1, e2, e5, mx]; done) | (subst h_32; simp [gainM, mx]; done)) (rfl)
      · refine ev_iload_n rfl hC d_Mod_gainsOf_68 ?_
        refine eb_eq 76 hC d_Mod_gainsOf_69 rfl (fun h_69 => ?_) (fun h_69 => ?_)
        · refine ev_iload_n rfl hC d_Mod_gainsOf_76 ?_
          refine ev_iload_n rfl hC d_Mod_gainsOf_77 ?_
          refine ev_iconst (v := 2) rfl hC d_Mod_gainsOf_78 ?_
          refine ev_idiv (by decide) hC d_Mod_gainsOf_79 ?_
          refine ev_iadd hC d_Mod_gainsOf_80 ?_
          exact ev_iret hC hR d_Mod_gainsOf_81 rfl (by cases b <;> first | (exact absurd h_1 (by decide)) | (exact absurd h_17 (by decide)) | (exact absurd h_69 (by decide)) | (exact absurd h_88 (by decide)) | (subst h_32; rfl) | (have e1 := sw_ne h_32 1 (by decide) (by decide); have e2 := sw_ne h_32 2 (by decide) (by decide); have e5 := sw_ne h_32 5 (by decide) (by decide); simp [gainM, e1, e2, e5, mx]; done) | (subst h_32; simp [gainM, mx]; done)) (rfl)
        · refine ev_iload_n rfl hC d_Mod_gainsOf_72 ?_
          refine ev_goto 81 hC d_Mod_gainsOf_73 rfl ?_
          exact ev_iret hC hR d_Mod_gainsOf_81 rfl (by cases b <;> first | (exact absurd h_1 (by decide)) | (exact absurd h_17 (by decide)) | (exact absurd h_69 (by decide)) | (exact absurd h_88 (by decide)) | (subst h_32; rfl) | (have e1 := sw_ne h_32 1 (by decide) (by decide); have e2 := sw_ne h_32 2 (by decide) (by decide); have e5 := sw_ne h_32 5 (by decide) (by decide); simp [gainM, e1, e2, e5, mx]; done) | (subst h_32; simp [gainM, mx]; done)) (rfl)
      · refine ev_iload rfl hC d_Mod_gainsOf_82 ?_
        exact ev_iret hC hR d_Mod_gainsOf_84 rfl (by cases b <;> first | (exact absurd h_1 (by decide)) | (exact absurd h_17 (by decide)) | (exact absurd h_69 (by decide)) | (exact absurd h_88 (by decide)) | (subst h_32; rfl) | (have e1 := sw_ne h_32 1 (by decide) (by decide); have e2 := sw_ne h_32 2 (by decide) (by decide); have e5 := sw_ne h_32 5 (by decide) (by decide); simp [gainM, e1, e2, e5, mx]; done) | (subst h_32; simp [gainM, mx]; done)) (rfl)
      · refine ev_iload_n rfl hC d_Mod_gainsOf_99 ?_
        exact ev_iret hC hR d_Mod_gainsOf_100 rfl (by cases b <;> first | (exact absurd h_1 (by decide)) | (exact absurd h_17 (by decide)) | (exact absurd h_69 (by decide)) | (exact absurd h_88 (by decide)) | (subst h_32; rfl) | (have e1 := sw_ne h_32 1 (by decide) (by decide); have e2 := sw_ne h_32 2 (by decide) (by decide); have e5 := sw_ne h_32 5 (by decide) (by decide); simp [gainM, e1, e2, e5, mx]; done) | (subst h_32; simp [gainM, mx]; done)) (rfl)
      · refine ev_iload_n rfl hC d_Mod_gainsOf_99 ?_
        exact ev_iret hC hR d_Mod_gainsOf_100 rfl (by cases b <;> first | (exact absurd h_1 (by decide)) | (exact absurd h_17 (by decide)) | (exact absurd h_69 (by decide)) | (exact absurd h_88 (by decide)) | (subst h_32; rfl) | (have e1 := sw_ne h_32 1 (by decide) (by decide); have e2 := sw_ne h_32 2 (by decide) (by decide); have e5 := sw_ne h_32 5 (by decide) (by decide); simp [gainM, e1, e2, e5, mx]; done) | (subst h_32; simp [gainM, mx]; done)) (rfl)
      · refine ev_iload rfl hC d_Mod_gainsOf_85 ?_
        refine ev_iload_n rfl hC d_Mod_gainsOf_87 ?_
        refine eb_eq 96 hC d_Mod_gainsOf_88 rfl (fun h_88 => ?_) (fun h_88 => ?_)
        · refine ev_iconst (v := 3) rfl hC d_Mod_gainsOf_96 ?_
          refine ev_iadd hC d_Mod_gainsOf_97 ?_
          exact ev_iret hC hR d_Mod_gainsOf_98 rfl (by cases b <;> first | (exact absurd h_1 (by decide)) | (exact absurd h_17 (by decide)) | (exact absurd h_69 (by decide)) | (exact absurd h_88 (by decide)) | (subst h_32; rfl) | (have e1 := sw_ne h_32 1 (by decide) (by decide); have e2 := sw_ne h_32 2 (by decide) (by decide); have e5 := sw_ne h_32 5 (by decide) (by decide); simp [gainM, e1, e2, e5, mx]; done) | (subst h_32; simp [gainM, mx]; done)) (rfl)
        · refine ev_bipush (v := 10) rfl hC d_Mod_gainsOf_91 ?_
          refine ev_goto 97 hC d_Mod_gainsOf_93 rfl ?_
          refine ev_iadd hC d_Mod_gainsOf_97 ?_
          exact ev_iret hC hR d_Mod_gainsOf_98 rfl (by cases b <;> first | (exact absurd h_1 (by decide)) | (exact absurd h_17 (by decide)) | (exact absurd h_69 (by decide)) | (exact absurd h_88 (by decide)) | (subst h_32; rfl) | (have e1 := sw_ne h_32 1 (by decide) (by decide); have e2 := sw_ne h_32 2 (by decide) (by decide); have e5 := sw_ne h_32 5 (by decide) (by decide); simp [gainM, e1, e2, e5, mx]; done) | (subst h_32; simp [gainM, mx]; done)) (rfl)
    · refine ev_iload_n rfl hC d_Mod_gainsOf_20 ?_
      refine ev_iconst (v := 1) rfl hC d_Mod_gainsOf_21 ?_
      refine ev_isub hC d_Mod_gainsOf_22 ?_
      refine ev_goto 29 hC d_Mod_gainsOf_23 rfl ?_
      refine ev_istore (by decide) hC d_Mod_gainsOf_29 ?_
      refine ev_iload_n rfl hC d_Mod_gainsOf_31 ?_
      refine sx_Mod_gainsOf_32 hC (fun h_32 => ?_) (fun h_32 => ?_) (fun h_32 => ?_) (fun h_32 => ?_) (fun h_32 => ?_) (fun h_32 => ?_)
      · refine ev_iload_n rfl hC d_Mod_gainsOf_99 ?_
        exact ev_iret hC hR d_Mod_gainsOf_100 rfl (by cases b <;> first | (exact absurd h_1 (by decide)) | (exact absurd h_17 (by decide)) | (exact absurd h_69 (by decide)) | (exact absurd h_88 (by decide)) | (subst h_32; rfl) | (have e1 := sw_ne h_32 1 (by decide) (by decide); have e2 := sw_ne h_32 2 (by decide) (by decide); have e5 := sw_ne h_32 5 (by decide) (by decide); simp [gainM, e1, e2, e5, mx]; done) | (subst h_32; simp [gainM, mx]; done)) (rfl)
      · refine ev_iload_n rfl hC d_Mod_gainsOf_68 ?_
        refine eb_eq 76 hC d_Mod_gainsOf_69 rfl (fun h_69 => ?_) (fun h_69 => ?_)
        · refine ev_iload_n rfl hC d_Mod_gainsOf_76 ?_
          refine ev_iload_n rfl hC d_Mod_gainsOf_77 ?_
          refine ev_iconst (v := 2) rfl hC d_Mod_gainsOf_78 ?_
          refine ev_idiv (by decide) hC d_Mod_gainsOf_79 ?_
          refine ev_iadd hC d_Mod_gainsOf_80 ?_
          exact ev_iret hC hR d_Mod_gainsOf_81 rfl (by cases b <;> first | (exact absurd h_1 (by decide)) | (exact absurd h_17 (by decide)) | (exact absurd h_69 (by decide)) | (exact absurd h_88 (by decide)) | (subst h_32; rfl) | (have e1 := sw_ne h_32 1 (by decide) (by decide); have e2 := sw_ne h_32 2 (by decide) (by decide); have e5 := sw_ne h_32 5 (by decide) (by decide); simp [gainM, e1, e2, e5, mx]; done) | (subst h_32; simp [gainM, mx]; done)) (rfl)
        · refine ev_iload_n rfl hC d_Mod_gainsOf_72 ?_
          refine ev_goto 81 hC d_Mod_gainsOf_73 rfl ?_
          exact ev_iret hC hR d_Mod_gainsOf_81 rfl (by cases b <;> first | (exact absurd h_1 (by decide)) | (exact absurd h_17 (by decide)) | (exact absurd h_69 (by decide)) | (exact absurd h_88 (by decide)) | (subst h_32; rfl) | (have e1 := sw_ne h_32 1 (by decide) (by decide); have e2 := sw_ne h_32 2 (by decide) (by decide); have e5 := sw_ne h_32 5 (by decide) (by decide); simp [gainM, e1, e2, e5, mx]; done) | (subst h_32; simp [gainM, mx]; done)) (rfl)
      · refine ev_iload rfl hC d_Mod_gainsOf_82 ?_
        exact ev_iret hC hR d_Mod_gainsOf_84 rfl (by cases b <;> first | (exact absurd h_1 (by decide)) | (exact absurd h_17 (by decide)) | (exact absurd h_69 (by decide)) | (exact absurd h_88 (by decide)) | (subst h_32; rfl) | (have e1 := sw_ne h_32 1 (by decide) (by decide); have e2 := sw_ne h_32 2 (by decide) (by decide); have e5 := sw_ne h_32 5 (by decide) (by decide); simp [gainM, e1, e2, e5, mx]; done) | (subst h_32; simp [gainM, mx]; done)) (rfl)
      · refine ev_iload_n rfl hC d_Mod_gainsOf_99 ?_
        exact ev_iret hC hR d_Mod_gainsOf_100 rfl (by cases b <;> first | (exact absurd h_1 (by decide)) | (exact absurd h_17 (by decide)) | (exact absurd h_69 (by decide)) | (exact absurd h_88 (by decide)) | (subst h_32; rfl) | (have e1 := sw_ne h_32 1 (by decide) (by decide); have e2 := sw_ne h_32 2 (by decide) (by decide); have e5 := sw_ne h_32 5 (by decide) (by decide); simp [gainM, e1, e2, e5, mx]; done) | (subst h_32; simp [gainM, mx]; done)) (rfl)
      · refine ev_iload_n rfl hC d_Mod_gainsOf_99 ?_
        exact ev_iret hC hR d_Mod_gainsOf_100 rfl (by cases b <;> first | (exact absurd h_1 (by decide)) | (exact absurd h_17 (by decide)) | (exact absurd h_69 (by decide)) | (exact absurd h_88 (by decide)) | (subst h_32; rfl) | (have e1 := sw_ne h_32 1 (by decide) (by decide); have e2 := sw_ne h_32 2 (by decide) (by decide); have e5 := sw_ne h_32 5 (by decide) (by decide); simp [gainM, e1, e2, e5, mx]; done) | (subst h_32; simp [gainM, mx]; done)) (rfl)
      · refine ev_iload rfl hC d_Mod_gainsOf_85 ?_
        refine ev_iload_n rfl hC d_Mod_gainsOf_87 ?_
        refine eb_eq 96 hC d_Mod_gainsOf_88 rfl (fun h_88 => ?_) (fun h_88 => ?_)
        · refine ev_iconst (v := 3) rfl hC d_Mod_gainsOf_96 ?_
          refine ev_iadd hC d_Mod_gainsOf_97 ?_
          exact ev_iret hC hR d_Mod_gainsOf_98 rfl (by cases b <;> first | (exact absurd h_1 (by decide)) | (exact absurd h_17 (by decide)) | (exact absurd h_69 (by decide)) | (exact absurd h_88 (by decide)) | (subst h_32; rfl) | (have e1 := sw_ne h_32 1 (by decide) (by decide); have e2 := sw_ne h_32 2 (by decide) (by decide); have e5 := sw_ne h_32 5 (by decide) (by decide); simp [gainM, e1, e2, e5, mx]; done) | (subst h_32; simp [gainM, mx]; done)) (rfl)
        · refine ev_bipush (v := 10) rfl hC d_Mod_gainsOf_91 ?_
          refine ev_goto 97 hC d_Mod_gainsOf_93 rfl ?_
          refine ev_iadd hC d_Mod_gainsOf_97 ?_
          exact ev_iret hC hR d_Mod_gainsOf_98 rfl (by cases b <;> first | (exact absurd h_1 (by decide)) | (exact absurd h_17 (by decide)) | (exact absurd h_69 (by decide)) | (exact absurd h_88 (by decide)) | (subst h_32; rfl) | (have e1 := sw_ne h_32 1 (by decide) (by decide); have e2 := sw_ne h_32 2 (by decide) (by decide); have e5 := sw_ne h_32 5 (by decide) (by decide); simp [gainM, e1, e2, e5, mx]; done) | (subst h_32; simp [gainM, mx]; done)) (rfl)
  · refine ev_iconst (v := 0) rfl hC d_Mod_gainsOf_4 ?_
    refine ev_iconst (v := 2) rfl hC d_Mod_gainsOf_5 ?_
    refine ev_iload_n rfl hC d_Mod_gainsOf_6 ?_
    refine ev_imul hC d_Mod_gainsOf_7 ?_
    refine cs_1 hC d_Mod_gainsOf_8 (c_Math_max ) mi_Math_max ml_Mod_110 sm_Math_max ⟨Nat.le_of_ble_eq_true rfl, Nat.le_of_ble_eq_true rfl⟩ ⟨Nat.le_of_ble_eq_true rfl, Nat.le_of_ble_eq_true rfl⟩ rfl rfl (Nat.le_of_ble_eq_true rfl) ?_
    refine ev_goto 15 hC d_Mod_gainsOf_11 rfl ?_
    refine ev_istore_n (by decide) hC d_Mod_gainsOf_15 ?_
    refine ev_iload_n rfl hC d_Mod_gainsOf_16 ?_
    refine eb_eq 26 hC d_Mod_gainsOf_17 rfl (fun h_17 => ?_) (fun h_17 => ?_)
    · refine ev_iload_n rfl hC d_Mod_gainsOf_26 ?_
      refine ev_iconst (v := 2) rfl hC d_Mod_gainsOf_27 ?_
      refine ev_idiv (by decide) hC d_Mod_gainsOf_28 ?_
      refine ev_istore (by decide) hC d_Mod_gainsOf_29 ?_
      refine ev_iload_n rfl hC d_Mod_gainsOf_31 ?_
      refine sx_Mod_gainsOf_32 hC (fun h_32 => ?_) (fun h_32 => ?_) (fun h_32 => ?_) (fun h_32 => ?_) (fun h_32 => ?_) (fun h_32 => ?_)
      · refine ev_iload_n rfl hC d_Mod_gainsOf_99 ?_
        exact ev_iret hC hR d_Mod_gainsOf_100 rfl (by cases b <;> first | (exact absurd h_1 (by decide)) | (exact absurd h_17 (by decide)) | (exact absurd h_69 (by decide)) | (exact absurd h_88 (by decide)) | (subst h_32; rfl) | (have e1 := sw_ne h_32 1 (by decide) (by decide); have e2 := sw_ne h_32 2 (by decide) (by decide); have e5 := sw_ne h_32 5 (by decide) (by decide); simp [gainM, e1, e2, e5, mx]; done) | (subst h_32; simp [gainM, mx]; done)) (rfl)
      · refine ev_iload_n rfl hC d_Mod_gainsOf_68 ?_
        refine eb_eq 76 hC d_Mod_gainsOf_69 rfl (fun h_69 => ?_) (fun h_69 => ?_)
        · refine ev_iload_n rfl hC d_Mod_gainsOf_76 ?_
          refine ev_iload_n rfl hC d_Mod_gainsOf_77 ?_
          refine ev_iconst (v := 2) rfl hC d_Mod_gainsOf_78 ?_
          refine ev_idiv (by decide) hC d_Mod_gainsOf_79 ?_
          refine ev_iadd hC d_Mod_gainsOf_80 ?_
          exact ev_iret hC hR d_Mod_gainsOf_81 rfl (by cases b <;> first | (exact absurd h_1 (by decide)) | (exact absurd h_17 (by decide)) | (exact absurd h_69 (by decide)) | (exact absurd h_88 (by decide)) | (subst h_32; rfl) | (have e1 := sw_ne h_32 1 (by decide) (by decide); have e2 := sw_ne h_32 2 (by decide) (by decide); have e5 := sw_ne h_32 5 (by decide) (by decide); simp [gainM, e1, e2, e5, mx]; done) | (subst h_32; simp [gainM, mx]; done)) (rfl)
        · refine ev_iload_n rfl hC d_Mod_gainsOf_72 ?_
          refine ev_goto 81 hC d_Mod_gainsOf_73 rfl ?_
          exact ev_iret hC hR d_Mod_gainsOf_81 rfl (by cases b <;> first | (exact absurd h_1 (by decide)) | (exact absurd h_17 (by decide)) | (exact absurd h_69 (by decide)) | (exact absurd h_88 (by decide)) | (subst h_32; rfl) | (have e1 := sw_ne h_32 1 (by decide) (by decide); have e2 := sw_ne h_32 2 (by decide) (by decide); have e5 := sw_ne h_32 5 (by decide) (by decide); simp [gainM, e1, e2, e5, mx]; done) | (subst h_32; simp [gainM, mx]; done)) (rfl)
      · refine ev_iload rfl hC d_Mod_gainsOf_82 ?_
        exact ev_iret hC hR d_Mod_gainsOf_84 rfl (by cases b <;> first | (exact absurd h_1 (by decide)) | (exact absurd h_17 (by decide)) | (exact absurd h_69 (by decide)) | (exact absurd h_88 (by decide)) | (subst h_32; rfl) | (have e1 := sw_ne h_32 1 (by decide) (by decide); have e2 := sw_ne h_32 2 (by decide) (by decide); have e5 := sw_ne h_32 5 (by decide) (by decide); simp [gainM, e1, e2, e5, mx]; done) | (subst h_32; simp [gainM, mx]; done)) (rfl)
      · refine ev_iload_n rfl hC d_Mod_gainsOf_99 ?_
        exact ev_iret hC hR d_Mod_gainsOf_100 rfl (by cases b <;> first | (exact absurd h_1 (by decide)) | (exact absurd h_17 (by decide)) | (exact absurd h_69 (by decide)) | (exact absurd h_88 (by decide)) | (subst h_32; rfl) | (have e1 := sw_ne h_32 1 (by decide) (by decide); have e2 := sw_ne h_32 2 (by decide) (by decide); have e5 := sw_ne h_32 5 (by decide) (by decide); simp [gainM, e1, e2, e5, mx]; done) | (subst h_32; simp [gainM, mx]; done)) (rfl)
      · refine ev_iload_n rfl hC d_Mod_gainsOf_99 ?_
        exact ev_iret hC hR d_Mod_gainsOf_100 rfl (by cases b <;> first | (exact absurd h_1 (by decide)) | (exact absurd h_17 (by decide)) | (exact absurd h_69 (by decide)) | (exact absurd h_88 (by decide)) | (subst h_32; rfl) | (have e1 := sw_ne h_32 1 (by decide) (by decide); have e2 := sw_ne h_32 2 (by decide) (by decide); have e5 := sw_ne h_32 5 (by decide) (by decide); simp [gainM, e1, e2, e5, mx]; done) | (subst h_32; simp [gainM, mx]; done)) (rfl)
      · refine ev_iload rfl hC d_Mod_gainsOf_85 ?_
        refine ev_iload_n rfl hC d_Mod_gainsOf_87 ?_
        refine eb_eq 96 hC d_Mod_gainsOf_88 rfl (fun h_88 => ?_) (fun h_88 => ?_)
        · refine ev_iconst (v := 3) rfl hC d_Mod_gainsOf_96 ?_
          refine ev_iadd hC d_Mod_gainsOf_97 ?_
          exact ev_iret hC hR d_Mod_gainsOf_98 rfl (by cases b <;> first | (exact absurd h_1 (by decide)) | (exact absurd h_17 (by decide)) | (exact absurd h_69 (by decide)) | (exact absurd h_88 (by decide)) | (subst h_32; rfl) | (have e1 := sw_ne h_32 1 (by decide) (by decide); have e2 := sw_ne h_32 2 (by decide) (by decide); have e5 := sw_ne h_32 5 (by decide) (by decide); simp [gainM, e1, e2, e5, mx]; done) | (subst h_32; simp [gainM, mx]; done)) (rfl)
        · refine ev_bipush (v := 10) rfl hC d_Mod_gainsOf_91 ?_
          refine ev_goto 97 hC d_Mod_gainsOf_93 rfl ?_
          refine ev_iadd hC d_Mod_gainsOf_97 ?_
          exact ev_iret hC hR d_Mod_gainsOf_98 rfl (by cases b <;> first | (exact absurd h_1 (by decide)) | (exact absurd h_17 (by decide)) | (exact absurd h_69 (by decide)) | (exact absurd h_88 (by decide)) | (subst h_32; rfl) | (have e1 := sw_ne h_32 1 (by decide) (by decide); have e2 := sw_ne h_32 2 (by decide) (by decide); have e5 := sw_ne h_32 5 (by decide) (by decide); simp [gainM, e1, e2, e5, mx]; done) | (subst h_32; simp [gainM, mx]; done)) (rfl)
    · refine ev_iload_n rfl hC d_Mod_gainsOf_20 ?_
      refine ev_iconst (v := 1) rfl hC d_Mod_gainsOf_21 ?_
      refine ev_isub hC d_Mod_gainsOf_22 ?_
      refine ev_goto 29 hC d_Mod_gainsOf_23 rfl ?_
      refine ev_istore (by decide) hC d_Mod_gainsOf_29 ?_
      refine ev_iload_n rfl hC d_Mod_gainsOf_31 ?_
      refine sx_Mod_gainsOf_32 hC (fun h_32 => ?_) (fun h_32 => ?_) (fun h_32 => ?_) (fun h_32 => ?_) (fun h_32 => ?_) (fun h_32 => ?_)
      · refine ev_iload_n rfl hC d_Mod_gainsOf_99 ?_
        exact ev_iret hC hR d_Mod_gainsOf_100 rfl (by cases b <;> first | (exact absurd h_1 (by decide)) | (exact absurd h_17 (by decide)) | (exact absurd h_69 (by decide)) | (exact absurd h_88 (by decide)) | (subst h_32; rfl) | (have e1 := sw_ne h_32 1 (by decide) (by decide); have e2 := sw_ne h_32 2 (by decide) (by decide); have e5 := sw_ne h_32 5 (by decide) (by decide); simp [gainM, e1, e2, e5, mx]; done) | (subst h_32; simp [gainM, mx]; done)) (rfl)
      · refine ev_iload_n rfl hC d_Mod_gainsOf_68 ?_
        refine eb_eq 76 hC d_Mod_gainsOf_69 rfl (fun h_69 => ?_) (fun h_69 => ?_)
        · refine ev_iload_n rfl hC d_Mod_gainsOf_76 ?_
          refine ev_iload_n rfl hC d_Mod_gainsOf_77 ?_
          refine ev_iconst (v := 2) rfl hC d_Mod_gainsOf_78 ?_
          refine ev_idiv (by decide) hC d_Mod_gainsOf_79 ?_
          refine ev_iadd hC d_Mod_gainsOf_80 ?_
          exact ev_iret hC hR d_Mod_gainsOf_81 rfl (by cases b <;> first | (exact absurd h_1 (by decide)) | (exact absurd h_17 (by decide)) | (exact absurd h_69 (by decide)) | (exact absurd h_88 (by decide)) | (subst h_32; rfl) | (have e1 := sw_ne h_32 1 (by decide) (by decide); have e2 := sw_ne h_32 2 (by decide) (by decide); have e5 := sw_ne h_32 5 (by decide) (by decide); simp [gainM, e1, e2, e5, mx]; done) | (subst h_32; simp [gainM, mx]; done)) (rfl)
        · refine ev_iload_n rfl hC d_Mod_gainsOf_72 ?_
          refine ev_goto 81 hC d_Mod_gainsOf_73 rfl ?_
          exact ev_iret hC hR d_Mod_gainsOf_81 rfl (by cases b <;> first | (exact absurd h_1 (by decide)) | (exact absurd h_17 (by decide)) | (exact absurd h_69 (by decide)) | (exact absurd h_88 (by decide)) | (subst h_32; rfl) | (have e1 := sw_ne h_32 1 (by decide) (by decide); have e2 := sw_ne h_32 2 (by decide) (by decide); have e5 := sw_ne h_32 5 (by decide) (by decide); simp [gainM, e1, e2, e5, mx]; done) | (subst h_32; simp [gainM, mx]; done)) (rfl)
      · refine ev_iload rfl hC d_Mod_gainsOf_82 ?_
        exact ev_iret hC hR d_Mod_gainsOf_84 rfl (by cases b <;> first | (exact absurd h_1 (by decide)) | (exact absurd h_17 (by decide)) | (exact absurd h_69 (by decide)) | (exact absurd h_88 (by decide)) | (subst h_32; rfl) | (have e1 := sw_ne h_32 1 (by decide) (by decide); have e2 := sw_ne h_32 2 (by decide) (by decide); have e5 := sw_ne h_32 5 (by decide) (by decide); simp [gainM, e1, e2, e5, mx]; done) | (subst h_32; simp [gainM, mx]; done)) (rfl)
      · refine ev_iload_n rfl hC d_Mod_gainsOf_99 ?_
        exact ev_iret hC hR d_Mod_gainsOf_100 rfl (by cases b <;> first | (exact absurd h_1 (by decide)) | (exact absurd h_17 (by decide)) | (exact absurd h_69 (by decide)) | (exact absurd h_88 (by decide)) | (subst h_32; rfl) | (have e1 := sw_ne h_32 1 (by decide) (by decide); have e2 := sw_ne h_32 2 (by decide) (by decide); have e5 := sw_ne h_32 5 (by decide) (by decide); simp [gainM, e1, e2, e5, mx]; done) | (subst h_32; simp [gainM, mx]; done)) (rfl)
      · refine ev_iload_n rfl hC d_Mod_gainsOf_99 ?_
        exact ev_iret hC hR d_Mod_gainsOf_100 rfl (by cases b <;> first | (exact absurd h_1 (by decide)) | (exact absurd h_17 (by decide)) | (exact absurd h_69 (by decide)) | (exact absurd h_88 (by decide)) | (subst h_32; rfl) | (have e1 := sw_ne h_32 1 (by decide) (by decide); have e2 := sw_ne h_32 2 (by decide) (by decide); have e5 := sw_ne h_32 5 (by decide) (by decide); simp [gainM, e1, e2, e5, mx]; done) | (subst h_32; simp [gainM, mx]; done)) (rfl)
      · refine ev_iload rfl hC d_Mod_gainsOf_85 ?_
        refine ev_iload_n rfl hC d_Mod_gainsOf_87 ?_
        refine eb_eq 96 hC d_Mod_gainsOf_88 rfl (fun h_88 => ?_) (fun h_88 => ?_)
        · refine ev_iconst (v := 3) rfl hC d_Mod_gainsOf_96 ?_
          refine ev_iadd hC d_Mod_gainsOf_97 ?_
          exact ev_iret hC hR d_Mod_gainsOf_98 rfl (by cases b <;> first | (exact absurd h_1 (by decide)) | (exact absurd h_17 (by decide)) | (exact absurd h_69 (by decide)) | (exact absurd h_88 (by decide)) | (subst h_32; rfl) | (have e1 := sw_ne h_32 1 (by decide) (by decide); have e2 := sw_ne h_32 2 (by decide) (by decide); have e5 := sw_ne h_32 5 (by decide) (by decide); simp [gainM, e1, e2, e5, mx]; done) | (subst h_32; simp [gainM, mx]; done)) (rfl)
        · refine ev_bipush (v := 10) rfl hC d_Mod_gainsOf_91 ?_
          refine ev_goto 97 hC d_Mod_gainsOf_93 rfl ?_
          refine ev_iadd hC d_Mod_gainsOf_97 ?_
          exact ev_iret hC hR d_Mod_gainsOf_98 rfl (by cases b <;> first | (exact absurd h_1 (by decide)) | (exact absurd h_17 (by decide)) | (exact absurd h_69 (by decide)) | (exact absurd h_88 (by decide)) | (subst h_32; rfl) | (have e1 := sw_ne h_32 1 (by decide) (by decide); have e2 := sw_ne h_32 2 (by decide) (by decide); have e5 := sw_ne h_32 5 (by decide) (by decide); simp [gainM, e1, e2, e5, mx]; done) | (subst h_32; simp [gainM, mx]; done)) (rfl)

def dep (x : Int32) : Nat := if x < 0 then 0 else ([1, 2, 2, 2, 3, 3] : List Nat).getD x.toNatClampNeg 0
theorem dep_step {x : Int32} (h : vp_in x 6) : (if x = 0 then (-1 : Int32) else if x = 4 then 3 else if x = 5 then 2 else 0) = ck_above x.toNatClampNeg ∧ dep (ck_above x.toNatClampNeg) + 1 = dep x := by
  obtain ⟨j, hj, rfl⟩ := vp_in_of h (by decide)
  rcases (by omega : j = 0 ∨ j = 1 ∨ j = 2 ∨ j = 3 ∨ j = 4 ∨ j = 5) with e | e | e | e | e | e <;> subst e <;> decide +kernel
theorem dep_0 {x : Int32} (h : x < 0 ∨ vp_in x 6) (h0 : dep x = 0) : x < 0 := by
  rcases h with h | h
  · exact h
  · have := (dep_step h).2
    omega
theorem undF_neg {n : Nat} {x s : Int32} (h : x < 0) : undF n x s = false := by cases n <;> simp [undF, h]
theorem dep_le {x : Int32} (h : vp_in x 6) : dep x ≤ 6 := by
  obtain ⟨j, hj, rfl⟩ := vp_in_of h (by decide)
  rcases (by omega : j = 0 ∨ j = 1 ∨ j = 2 ∨ j = 3 ∨ j = 4 ∨ j = 5) with e | e | e | e | e | e <;> subst e <;> decide +kernel

set_option maxHeartbeats 2000000 in
set_option maxRecDepth 10000 in
theorem lp_Mod_isUnder {G : ex_G} {C : ex_C} {rr : Option Value} {ee : List va_E} {M : ex_M} {k s : Int32} (hC : Cx G C Y_Mod_isUnder { frames := 1, cells := 0, slots := 0, locals := 20 }) (hR : Cr G C Y_Mod_isUnder 0 0 rr ee) :
    ∀ (n : Nat) (x : Int32), dep x ≤ n → (x < 0 ∨ vp_in x 6) → rr = some (.int (bi (undF n x s))) → ee = ce G M → Ev G C Y_Mod_isUnder 2 [some (.int k), some (.int s), some (.int x)] [] 0 0 (ce G (M)) := by
  intro n
  induction n with
  | zero =>
    intro x hd hx hr he
    have hx0 := dep_0 hx (by omega)
    refine ev_iload_n rfl hC d_Mod_isUnder_2 ?_
    refine ev_if_lt 19 hC d_Mod_isUnder_3 rfl (fun h_3 => ?_) (fun h_3 => absurd hx0 h_3)
    refine ev_iload_n rfl hC d_Mod_isUnder_19 ?_
    refine ev_if_lt 27 hC d_Mod_isUnder_20 rfl (fun h_20 => ?_) (fun h_20 => ?_)
    · refine ev_iconst (v := 0) rfl hC d_Mod_isUnder_27 ?_
      exact ev_zret hC hR d_Mod_isUnder_28 rfl (by first | exact bi_nar _ | decide) (by rw [hr]; first | (rw [undF_neg h_3]; rfl) | (rw [undF, if_neg h_3, if_pos h_8]; rfl) | (exact absurd h_3 h_20) | (exact absurd h_3 h_20)) (he)
    · refine ev_iconst (v := 1) rfl hC d_Mod_isUnder_23 ?_
      refine ev_goto 28 hC d_Mod_isUnder_24 rfl ?_
      exact ev_zret hC hR d_Mod_isUnder_28 rfl (by first | exact bi_nar _ | decide) (by rw [hr]; first | (rw [undF_neg h_3]; rfl) | (rw [undF, if_neg h_3, if_pos h_8]; rfl) | (exact absurd h_3 h_20) | (exact absurd h_3 h_20)) (he)
  | succ n ih =>
    intro x hd hx hr he
    refine ev_iload_n rfl hC d_Mod_isUnder_2 ?_
    refine ev_if_lt 19 hC d_Mod_isUnder_3 rfl (fun h_3 => ?_) (fun h_3 => ?_)
    · refine ev_iload_n rfl hC d_Mod_isUnder_19 ?_
      refine ev_if_lt 27 hC d_Mod_isUnder_20 rfl (fun h_20 => ?_) (fun h_20 => ?_)
      · refine ev_iconst (v := 0) rfl hC d_Mod_isUnder_27 ?_
        exact ev_zret hC hR d_Mod_isUnder_28 rfl (by first | exact bi_nar _ | decide) (by rw [hr]; first | (rw [undF_neg h_3]; rfl) | (rw [undF, if_neg h_3, if_pos h_8]; rfl) | (exact absurd h_20 h_3) | (exact absurd h_3 h_20)) (he)
      · refine ev_iconst (v := 1) rfl hC d_Mod_isUnder_23 ?_
        refine ev_goto 28 hC d_Mod_isUnder_24 rfl ?_
        exact ev_zret hC hR d_Mod_isUnder_28 rfl (by first | exact bi_nar _ | decide) (by rw [hr]; first | (rw [undF_neg h_3]; rfl) | (rw [undF, if_neg h_3, if_pos h_8]; rfl) | (exact absurd h_20 h_3) | (exact absurd h_3 h_20)) (he)
    · refine ev_iload_n rfl hC d_Mod_isUnder_6 ?_
      refine ev_iload_n rfl hC d_Mod_isUnder_7 ?_
      refine ev_icmp_eq 19 hC d_Mod_isUnder_8 rfl (fun h_8 => ?_) (fun h_8 => ?_)
      · refine ev_iload_n rfl hC d_Mod_isUnder_19 ?_
        refine ev_if_lt 27 hC d_Mod_isUnder_20 rfl (fun h_20 => ?_) (fun h_20 => ?_)
        · refine ev_iconst (v := 0) rfl hC d_Mod_isUnder_27 ?_
          exact ev_zret hC hR d_Mod_isUnder_28 rfl (by first | exact bi_nar _ | decide) (by rw [hr]; first | (rw [undF_neg h_3]; rfl) | (rw [undF, if_neg h_3, if_pos h_8]; rfl) | (exact absurd h_20 h_3) | (exact absurd h_3 h_20)) (he)
        · refine ev_iconst (v := 1) rfl hC d_Mod_isUnder_23 ?_
          refine ev_goto 28 hC d_Mod_isUnder_24 rfl ?_
          exact ev_zret hC hR d_Mod_isUnder_28 rfl (by first | exact bi_nar _ | decide) (by rw [hr]; first | (rw [undF_neg h_3]; rfl) | (rw [undF, if_neg h_3, if_pos h_8]; rfl) | (exact absurd h_20 h_3) | (exact absurd h_3 h_20)) (he)
      · refine ev_iload_n rfl hC d_Mod_isUnder_11 ?_
        refine cs_1 hC d_Mod_isUnder_12 (c_Mod_above ) mi_Mod_above ml_Mod_128 sm_Mod_above ⟨Nat.le_of_ble_eq_true rfl, Nat.le_of_ble_eq_true rfl⟩ ⟨Nat.le_of_ble_eq_true rfl, Nat.le_of_ble_eq_true rfl⟩ rfl rfl (Nat.le_of_ble_eq_true rfl) ?_
        refine ev_istore_n (by decide) hC d_Mod_isUnder_15 ?_
        refine ev_goto 2 hC d_Mod_isUnder_16 rfl ?_
        rw [(dep_step (hx.resolve_left h_3)).1]
        exact ih _ (by have := (dep_step (hx.resolve_left h_3)).2; omega) (und_step (hx.resolve_left h_3)) (by rw [hr, undF, if_neg h_3, if_neg h_8]) he

set_option maxHeartbeats 2000000 in
set_option maxRecDepth 10000 in
theorem c_Mod_isUnder {G : ex_G} {M : ex_M} {k s : Int32} (hk : vp_in k 6) : Con G Y_Mod_isUnder 1 20 0 0 [.int k, .int s] (ce G M) (some (.int (bi (undF 6 k s)))) (ce G (M)) := by
  refine Con.ofF (plainFor_of_name (by decide +kernel)) (Nat.le_of_ble_eq_true rfl) (fun C hC hR => ?_)
  show Ev G C Y_Mod_isUnder 0 [some (.int k), some (.int s)] [] 0 0 (ce G M)
  refine ev_iload_n rfl hC d_Mod_isUnder_0 ?_
  refine ev_istore_n (by decide) hC d_Mod_isUnder_1 ?_
  exact lp_Mod_isUnder hC hR 6 k (dep_le hk) (Or.inr hk) rfl rfl

set_option maxHeartbeats 2000000 in
set_option maxRecDepth 10000 in
theorem lp_Mod_bits {G : ex_G} {C : ex_C} {rr : Option Value} {ee : List va_E} {M : ex_M} {k0 : Nat} (hC : Cx G C Y_Mod_bits { frames := 0, cells := 0, slots := 0, locals := 0 }) (hR : Cr G C Y_Mod_bits 0 0 rr ee) :
    ∀ (n k c : Nat), popc k ≤ n → k < 256 → rr = some (.int (nI (c + popc k))) → ee = ce G M → Ev G C Y_Mod_bits 4 [some (.int (nI k0)), some (.int (nI c)), some (.int (nI k))] [] 0 0 (ce G (M)) := by
  intro n
  induction n with
  | zero =>
    intro k c hn hk hr he
    have hk0 : k = 0 := by
      rcases Nat.eq_zero_or_pos k with h | h
      · exact h
      · have := (popc_step k hk (by omega)).2.1
        omega
    subst hk0
    refine ev_iload_n rfl hC d_Mod_bits_4 ?_
    refine ev_if_eq 20 hC d_Mod_bits_5 rfl (fun h_5 => ?_) (fun h_5 => absurd rfl h_5)
    refine ev_iload_n rfl hC d_Mod_bits_20 ?_
    exact ev_iret hC hR d_Mod_bits_21 rfl (by rw [hr, popc_0]; rfl) he
  | succ n ih =>
    intro k c hn hk hr he
    refine ev_iload_n rfl hC d_Mod_bits_4 ?_
    refine ev_if_eq 20 hC d_Mod_bits_5 rfl (fun h_5 => ?_) (fun h_5 => ?_)
    · refine ev_iload_n rfl hC d_Mod_bits_20 ?_
      exact ev_iret hC hR d_Mod_bits_21 rfl (by rw [hr, show k = 0 from (nI_eq (by omega) (by omega)).mp h_5, popc_0]; rfl) (he)
    · have hk0 : k ≠ 0 := fun e => h_5 (by rw [e]; rfl)
      refine ev_iinc rfl (by decide) (nI_1 _) hC d_Mod_bits_8 ?_
      refine ev_iload_n rfl hC d_Mod_bits_11 ?_
      refine ev_iload_n rfl hC d_Mod_bits_12 ?_
      refine ev_iconst (v := 1) rfl hC d_Mod_bits_13 ?_
      refine ev_isub hC d_Mod_bits_14 ?_
      refine ev_iand hC d_Mod_bits_15 ?_
      refine ev_istore_n (by decide) hC d_Mod_bits_16 ?_
      refine ev_goto 4 hC d_Mod_bits_17 rfl ?_
      rw [(popc_step k hk hk0).1]
      exact ih _ (c + 1) (by have := (popc_step k hk hk0).2.1; omega) (popc_step k hk hk0).2.2 (by rw [hr, ← (popc_step k hk hk0).2.1]; congr 3; omega) he

set_option maxHeartbeats 2000000 in
set_option maxRecDepth 10000 in
theorem c_Mod_bits {G : ex_G} {M : ex_M} {k : Nat} (hk : k < 256) : Con G Y_Mod_bits 0 0 0 0 [.int (nI k)] (ce G M) (some (.int (nI (popc k)))) (ce G (M)) := by
  refine Con.ofF (plainFor_of_name (by decide +kernel)) (Nat.le_of_ble_eq_true rfl) (fun C hC hR => ?_)
  show Ev G C Y_Mod_bits 0 [some (.int (nI k))] [] 0 0 (ce G M)
  refine ev_iconst (v := nI 0) rfl hC d_Mod_bits_0 ?_
  refine ev_istore_n (by decide) hC d_Mod_bits_1 ?_
  refine ev_iload_n rfl hC d_Mod_bits_2 ?_
  refine ev_istore_n (by decide) hC d_Mod_bits_3 ?_
  exact lp_Mod_bits hC hR 8 k 0 (popc_le k) hk (by rw [Nat.zero_add]) rfl

set_option maxHeartbeats 2000000 in
set_option maxRecDepth 10000 in
theorem c_Int_bitCount {G : ex_G} {M : ex_M} {k : Nat} (hk : k < 256) : Con G Y_Int_bitCount 0 0 0 0 [.int (nI k)] (ce G M) (some (.int (nI (popc k)))) (ce G (M)) := by
  refine Con.ofF (by decide +kernel) (Nat.le_of_ble_eq_true rfl) (fun C hC hR => ?_)
  show Ev G C Y_Int_bitCount 0 [some (.int (nI k))] [] 0 0 (ce G M)
  refine ev_iload_n rfl hC d_Int_bitCount_0 ?_
  refine ev_iload_n rfl hC d_Int_bitCount_1 ?_
  refine ev_iconst (v := 1) rfl hC d_Int_bitCount_2 ?_
  refine ev_iushr hC d_Int_bitCount_3 ?_
  refine ev_ldcw kc_Int_265 hC d_Int_bitCount_4 ?_
  refine ev_iand hC d_Int_bitCount_7 ?_
  refine ev_isub hC d_Int_bitCount_8 ?_
  refine ev_istore_n (by decide) hC d_Int_bitCount_9 ?_
  refine ev_iload_n rfl hC d_Int_bitCount_10 ?_
  refine ev_ldcw kc_Int_266 hC d_Int_bitCount_11 ?_
  refine ev_iand hC d_Int_bitCount_14 ?_
  refine ev_iload_n rfl hC d_Int_bitCount_15 ?_
  refine ev_iconst (v := 2) rfl hC d_Int_bitCount_16 ?_
  refine ev_iushr hC d_Int_bitCount_17 ?_
  refine ev_ldcw kc_Int_266 hC d_Int_bitCount_18 ?_
  refine ev_iand hC d_Int_bitCount_21 ?_
  refine ev_iadd hC d_Int_bitCount_22 ?_
  refine ev_istore_n (by decide) hC d_Int_bitCount_23 ?_
  refine ev_iload_n rfl hC d_Int_bitCount_24 ?_
  refine ev_iload_n rfl hC d_Int_bitCount_25 ?_
  refine ev_iconst (v := 4) rfl hC d_Int_bitCount_26 ?_
  refine ev_iushr hC d_Int_bitCount_27 ?_
  refine ev_iadd hC d_Int_bitCount_28 ?_
  refine ev_ldcw kc_Int_267 hC d_Int_bitCount_29 ?_
  refine ev_iand hC d_Int_bitCount_32 ?_
  refine ev_istore_n (by decide) hC d_Int_bitCount_33 ?_
  refine ev_iload_n rfl hC d_Int_bitCount_34 ?_
  refine ev_iload_n rfl hC d_Int_bitCount_35 ?_
  refine ev_bipush (v := 8) rfl hC d_Int_bitCount_36 ?_
  refine ev_iushr hC d_Int_bitCount_38 ?_
  refine ev_iadd hC d_Int_bitCount_39 ?_
  refine ev_istore_n (by decide) hC d_Int_bitCount_40 ?_
  refine ev_iload_n rfl hC d_Int_bitCount_41 ?_
  refine ev_iload_n rfl hC d_Int_bitCount_42 ?_
  refine ev_bipush (v := 16) rfl hC d_Int_bitCount_43 ?_
  refine ev_iushr hC d_Int_bitCount_45 ?_
  refine ev_iadd hC d_Int_bitCount_46 ?_
  refine ev_istore_n (by decide) hC d_Int_bitCount_47 ?_
  refine ev_iload_n rfl hC d_Int_bitCount_48 ?_
  refine ev_bipush (v := 63) rfl hC d_Int_bitCount_49 ?_
  refine ev_iand hC d_Int_bitCount_51 ?_
  exact ev_iret hC hR d_Int_bitCount_52 rfl (by refine congrArg (fun z => some (Value.int z)) ?_; clear hR hC; obtain ⟨z, rfl⟩ : ∃ z : Nat, z = k := ⟨k, rfl⟩; revert hk; revert z; decide +kernel) (rfl)

theorem ntz_mask : ∀ k, k < 256 → k ≠ 0 → ((nI k ^^^ (-1)) &&& (nI k - 1)) = nI (2 ^ ntz k - 1) ∧ ntz k ≤ 7 := by decide +kernel

set_option maxHeartbeats 2000000 in
set_option maxRecDepth 10000 in
theorem c_Int_numberOfTrailingZeros {G : ex_G} {M : ex_M} {k : Nat} (hk : k < 256) (hk0 : k ≠ 0) : Con G Y_Int_numberOfTrailingZeros 0 0 0 0 [.int (nI k)] (ce G M) (some (.int (nI (ntz k)))) (ce G (M)) := by
  refine Con.ofF (by decide +kernel) (Nat.le_of_ble_eq_true rfl) (fun C hC hR => ?_)
  show Ev G C Y_Int_numberOfTrailingZeros 0 [some (.int (nI k))] [] 0 0 (ce G M)
  refine ev_iload_n rfl hC d_Int_numberOfTrailingZeros_0 ?_
  refine ev_iconst (v := -1) rfl hC d_Int_numberOfTrailingZeros_1 ?_
  refine ev_ixor hC d_Int_numberOfTrailingZeros_2 ?_
  refine ev_iload_n rfl hC d_Int_numberOfTrailingZeros_3 ?_
  refine ev_iconst (v := 1) rfl hC d_Int_numberOfTrailingZeros_4 ?_
  refine ev_isub hC d_Int_numberOfTrailingZeros_5 ?_
  refine ev_iand hC d_Int_numberOfTrailingZeros_6 ?_
  rw [(ntz_mask k hk hk0).1]
  have ht := (ntz_mask k hk hk0).2
  generalize ntz k = t at ht hR ⊢
  rcases (by omega : t = 0 ∨ t = 1 ∨ t = 2 ∨ t = 3 ∨ t = 4 ∨ t = 5 ∨ t = 6 ∨ t = 7) with e | e | e | e | e | e | e | e <;> subst e
  · refine ev_istore_n (by decide) hC d_Int_numberOfTrailingZeros_7 ?_
    refine ev_iload_n rfl hC d_Int_numberOfTrailingZeros_8 ?_
    refine ev_if_gt 17 hC d_Int_numberOfTrailingZeros_9 rfl (fun h => absurd h (by decide)) (fun _ => ?_)
    refine ev_iload_n rfl hC d_Int_numberOfTrailingZeros_12 ?_
    refine ev_bipush (v := 32) rfl hC d_Int_numberOfTrailingZeros_13 ?_
    refine ev_iand hC d_Int_numberOfTrailingZeros_15 ?_
    exact ev_iret hC hR d_Int_numberOfTrailingZeros_16 rfl (by decide +kernel) rfl
  · refine ev_istore_n (by decide) hC d_Int_numberOfTrailingZeros_7 ?_
    refine ev_iload_n rfl hC d_Int_numberOfTrailingZeros_8 ?_
    refine ev_if_gt 17 hC d_Int_numberOfTrailingZeros_9 rfl (fun _ => ?_) (fun h => absurd (by decide) h)
    refine ev_iconst (v := 1) rfl hC d_Int_numberOfTrailingZeros_17 ?_
    refine ev_istore_n (by decide) hC d_Int_numberOfTrailingZeros_18 ?_
    refine ev_iload_n rfl hC d_Int_numberOfTrailingZeros_19 ?_
    refine ev_ldcw kc_Int_264 hC d_Int_numberOfTrailingZeros_20 ?_
    refine ev_icmp_le 34 hC d_Int_numberOfTrailingZeros_23 rfl (fun _ => ?_) (fun h => absurd (by decide) h)
    refine ev_iload_n rfl hC d_Int_numberOfTrailingZeros_34 ?_
    refine ev_sipush (v := 256) rfl hC d_Int_numberOfTrailingZeros_35 ?_
    refine ev_icmp_le 49 hC d_Int_numberOfTrailingZeros_38 rfl (fun _ => ?_) (fun h => absurd (by decide) h)
    refine ev_iload_n rfl hC d_Int_numberOfTrailingZeros_49 ?_
    refine ev_bipush (v := 16) rfl hC d_Int_numberOfTrailingZeros_50 ?_
    refine ev_icmp_le 62 hC d_Int_numberOfTrailingZeros_52 rfl (fun _ => ?_) (fun h => absurd (by decide) h)
    refine ev_iload_n rfl hC d_Int_numberOfTrailingZeros_62 ?_
    refine ev_iconst (v := 4) rfl hC d_Int_numberOfTrailingZeros_63 ?_
    refine ev_icmp_le 74 hC d_Int_numberOfTrailingZeros_64 rfl (fun _ => ?_) (fun h => absurd (by decide) h)
    refine ev_iload_n rfl hC d_Int_numberOfTrailingZeros_74 ?_
    refine ev_iload_n rfl hC d_Int_numberOfTrailingZeros_75 ?_
    refine ev_iconst (v := 1) rfl hC d_Int_numberOfTrailingZeros_76 ?_
    refine ev_iushr hC d_Int_numberOfTrailingZeros_77 ?_
    refine ev_iadd hC d_Int_numberOfTrailingZeros_78 ?_
    exact ev_iret hC hR d_Int_numberOfTrailingZeros_79 rfl (by decide +kernel) rfl
  · refine ev_istore_n (by decide) hC d_Int_numberOfTrailingZeros_7 ?_
    refine ev_iload_n rfl hC d_Int_numberOfTrailingZeros_8 ?_
    refine ev_if_gt 17 hC d_Int_numberOfTrailingZeros_9 rfl (fun _ => ?_) (fun h => absurd (by decide) h)
    refine ev_iconst (v := 1) rfl hC d_Int_numberOfTrailingZeros_17 ?_
    refine ev_istore_n (by decide) hC d_Int_numberOfTrailingZeros_18 ?_
    refine ev_iload_n rfl hC d_Int_numberOfTrailingZeros_19 ?_
    refine ev_ldcw kc_Int_264 hC d_Int_numberOfTrailingZeros_20 ?_
    refine ev_icmp_le 34 hC d_Int_numberOfTrailingZeros_23 rfl (fun _ => ?_) (fun h => absurd (by decide) h)
    refine ev_iload_n rfl hC d_Int_numberOfTrailingZeros_34 ?_
    refine ev_sipush (v := 256) rfl hC d_Int_numberOfTrailingZeros_35 ?_
    refine ev_icmp_le 49 hC d_Int_numberOfTrailingZeros_38 rfl (fun _ => ?_) (fun h => absurd (by decide) h)
    refine ev_iload_n rfl hC d_Int_numberOfTrailingZeros_49 ?_
    refine ev_bipush (v := 16) rfl hC d_Int_numberOfTrailingZeros_50 ?_
    refine ev_icmp_le 62 hC d_Int_numberOfTrailingZeros_52 rfl (fun _ => ?_) (fun h => absurd (by decide) h)
    refine ev_iload_n rfl hC d_Int_numberOfTrailingZeros_62 ?_
    refine ev_iconst (v := 4) rfl hC d_Int_numberOfTrailingZeros_63 ?_
    refine ev_icmp_le 74 hC d_Int_numberOfTrailingZeros_64 rfl (fun _ => ?_) (fun h => absurd (by decide) h)
    refine ev_iload_n rfl hC d_Int_numberOfTrailingZeros_74 ?_
    refine ev_iload_n rfl hC d_Int_numberOfTrailingZeros_75 ?_
    refine ev_iconst (v := 1) rfl hC d_Int_numberOfTrailingZeros_76 ?_
    refine ev_iushr hC d_Int_numberOfTrailingZeros_77 ?_
    refine ev_iadd hC d_Int_numberOfTrailingZeros_78 ?_
    exact ev_iret hC hR d_Int_numberOfTrailingZeros_79 rfl (by decide +kernel) rfl
  · refine ev_istore_n (by decide) hC d_Int_numberOfTrailingZeros_7 ?_
    refine ev_iload_n rfl hC d_Int_numberOfTrailingZeros_8 ?_
    refine ev_if_gt 17 hC d_Int_numberOfTrailingZeros_9 rfl (fun _ => ?_) (fun h => absurd (by decide) h)
    refine ev_iconst (v := 1) rfl hC d_Int_numberOfTrailingZeros_17 ?_
    refine ev_istore_n (by decide) hC d_Int_numberOfTrailingZeros_18 ?_
    refine ev_iload_n rfl hC d_Int_numberOfTrailingZeros_19 ?_
    refine ev_ldcw kc_Int_264 hC d_Int_numberOfTrailingZeros_20 ?_
    refine ev_icmp_le 34 hC d_Int_numberOfTrailingZeros_23 rfl (fun _ => ?_) (fun h => absurd (by decide) h)
    refine ev_iload_n rfl hC d_Int_numberOfTrailingZeros_34 ?_
    refine ev_sipush (v := 256) rfl hC d_Int_numberOfTrailingZeros_35 ?_
    refine ev_icmp_le 49 hC d_Int_numberOfTrailingZeros_38 rfl (fun _ => ?_) (fun h => absurd (by decide) h)
    refine ev_iload_n rfl hC d_Int_numberOfTrailingZeros_49 ?_
    refine ev_bipush (v := 16) rfl hC d_Int_numberOfTrailingZeros_50 ?_
    refine ev_icmp_le 62 hC d_Int_numberOfTrailingZeros_52 rfl (fun _ => ?_) (fun h => absurd (by decide) h)
    refine ev_iload_n rfl hC d_Int_numberOfTrailingZeros_62 ?_
    refine ev_iconst (v := 4) rfl hC d_Int_numberOfTrailingZeros_63 ?_
    refine ev_icmp_le 74 hC d_Int_numberOfTrailingZeros_64 rfl (fun h => absurd h (by decide)) (fun _ => ?_)
    refine ev_iinc rfl (by decide) (rfl) hC d_Int_numberOfTrailingZeros_67 ?_
    refine ev_iload_n rfl hC d_Int_numberOfTrailingZeros_70 ?_
    refine ev_iconst (v := 2) rfl hC d_Int_numberOfTrailingZeros_71 ?_
    refine ev_iushr hC d_Int_numberOfTrailingZeros_72 ?_
    refine ev_istore_n (by decide) hC d_Int_numberOfTrailingZeros_73 ?_
    refine ev_iload_n rfl hC d_Int_numberOfTrailingZeros_74 ?_
    refine ev_iload_n rfl hC d_Int_numberOfTrailingZeros_75 ?_
    refine ev_iconst (v := 1) rfl hC d_Int_numberOfTrailingZeros_76 ?_
    refine ev_iushr hC d_Int_numberOfTrailingZeros_77 ?_
    refine ev_iadd hC d_Int_numberOfTrailingZeros_78 ?_
    exact ev_iret hC hR d_Int_numberOfTrailingZeros_79 rfl (by decide +kernel) rfl
  · refine ev_istore_n (by decide) hC d_Int_numberOfTrailingZeros_7 ?_
    refine ev_iload_n rfl hC d_Int_numberOfTrailingZeros_8 ?_
    refine ev_if_gt 17 hC d_Int_numberOfTrailingZeros_9 rfl (fun _ => ?_) (fun h => absurd (by decide) h)
    refine ev_iconst (v := 1) rfl hC d_Int_numberOfTrailingZeros_17 ?_
    refine ev_istore_n (by decide) hC d_Int_numberOfTrailingZeros_18 ?_
    refine ev_iload_n rfl hC d_Int_numberOfTrailingZeros_19 ?_
    refine ev_ldcw kc_Int_264 hC d_Int_numberOfTrailingZeros_20 ?_
    refine ev_icmp_le 34 hC d_Int_numberOfTrailingZeros_23 rfl (fun _ => ?_) (fun h => absurd (by decide) h)
    refine ev_iload_n rfl hC d_Int_numberOfTrailingZeros_34 ?_
    refine ev_sipush (v := 256) rfl hC d_Int_numberOfTrailingZeros_35 ?_
    refine ev_icmp_le 49 hC d_Int_numberOfTrailingZeros_38 rfl (fun _ => ?_) (fun h => absurd (by decide) h)
    refine ev_iload_n rfl hC d_Int_numberOfTrailingZeros_49 ?_
    refine ev_bipush (v := 16) rfl hC d_Int_numberOfTrailingZeros_50 ?_
    refine ev_icmp_le 62 hC d_Int_numberOfTrailingZeros_52 rfl (fun _ => ?_) (fun h => absurd (by decide) h)
    refine ev_iload_n rfl hC d_Int_numberOfTrailingZeros_62 ?_
    refine ev_iconst (v := 4) rfl hC d_Int_numberOfTrailingZeros_63 ?_
    refine ev_icmp_le 74 hC d_Int_numberOfTrailingZeros_64 rfl (fun h => absurd h (by decide)) (fun _ => ?_)
    refine ev_iinc rfl (by decide) (rfl) hC d_Int_numberOfTrailingZeros_67 ?_
    refine ev_iload_n rfl hC d_Int_numberOfTrailingZeros_70 ?_
    refine ev_iconst (v := 2) rfl hC d_Int_numberOfTrailingZeros_71 ?_
    refine ev_iushr hC d_Int_numberOfTrailingZeros_72 ?_
    refine ev_istore_n (by decide) hC d_Int_numberOfTrailingZeros_73 ?_
    refine ev_iload_n rfl hC d_Int_numberOfTrailingZeros_74 ?_
    refine ev_iload_n rfl hC d_Int_numberOfTrailingZeros_75 ?_
    refine ev_iconst (v := 1) rfl hC d_Int_numberOfTrailingZeros_76 ?_
    refine ev_iushr hC d_Int_numberOfTrailingZeros_77 ?_
    refine ev_iadd hC d_Int_numberOfTrailingZeros_78 ?_
    exact ev_iret hC hR d_Int_numberOfTrailingZeros_79 rfl (by decide +kernel) rfl
  · refine ev_istore_n (by decide) hC d_Int_numberOfTrailingZeros_7 ?_
    refine ev_iload_n rfl hC d_Int_numberOfTrailingZeros_8 ?_
    refine ev_if_gt 17 hC d_Int_numberOfTrailingZeros_9 rfl (fun _ => ?_) (fun h => absurd (by decide) h)
    refine ev_iconst (v := 1) rfl hC d_Int_numberOfTrailingZeros_17 ?_
    refine ev_istore_n (by decide) hC d_Int_numberOfTrailingZeros_18 ?_
    refine ev_iload_n rfl hC d_Int_numberOfTrailingZeros_19 ?_
    refine ev_ldcw kc_Int_264 hC d_Int_numberOfTrailingZeros_20 ?_
    refine ev_icmp_le 34 hC d_Int_numberOfTrailingZeros_23 rfl (fun _ => ?_) (fun h => absurd (by decide) h)
    refine ev_iload_n rfl hC d_Int_numberOfTrailingZeros_34 ?_
    refine ev_sipush (v := 256) rfl hC d_Int_numberOfTrailingZeros_35 ?_
    refine ev_icmp_le 49 hC d_Int_numberOfTrailingZeros_38 rfl (fun _ => ?_) (fun h => absurd (by decide) h)
    refine ev_iload_n rfl hC d_Int_numberOfTrailingZeros_49 ?_
    refine ev_bipush (v := 16) rfl hC d_Int_numberOfTrailingZeros_50 ?_
    refine ev_icmp_le 62 hC d_Int_numberOfTrailingZeros_52 rfl (fun h => absurd h (by decide)) (fun _ => ?_)
    refine ev_iinc rfl (by decide) (rfl) hC d_Int_numberOfTrailingZeros_55 ?_
    refine ev_iload_n rfl hC d_Int_numberOfTrailingZeros_58 ?_
    refine ev_iconst (v := 4) rfl hC d_Int_numberOfTrailingZeros_59 ?_
    refine ev_iushr hC d_Int_numberOfTrailingZeros_60 ?_
    refine ev_istore_n (by decide) hC d_Int_numberOfTrailingZeros_61 ?_
    refine ev_iload_n rfl hC d_Int_numberOfTrailingZeros_62 ?_
    refine ev_iconst (v := 4) rfl hC d_Int_numberOfTrailingZeros_63 ?_
    refine ev_icmp_le 74 hC d_Int_numberOfTrailingZeros_64 rfl (fun _ => ?_) (fun h => absurd (by decide) h)
    refine ev_iload_n rfl hC d_Int_numberOfTrailingZeros_74 ?_
    refine ev_iload_n rfl hC d_Int_numberOfTrailingZeros_75 ?_
    refine ev_iconst (v := 1) rfl hC d_Int_numberOfTrailingZeros_76 ?_
    refine ev_iushr hC d_Int_numberOfTrailingZeros_77 ?_
    refine ev_iadd hC d_Int_numberOfTrailingZeros_78 ?_
    exact ev_iret hC hR d_Int_numberOfTrailingZeros_79 rfl (by decide +kernel) rfl
  · refine ev_istore_n (by decide) hC d_Int_numberOfTrailingZeros_7 ?_
    refine ev_iload_n rfl hC d_Int_numberOfTrailingZeros_8 ?_
    refine ev_if_gt 17 hC d_Int_numberOfTrailingZeros_9 rfl (fun _ => ?_) (fun h => absurd (by decide) h)
    refine ev_iconst (v := 1) rfl hC d_Int_numberOfTrailingZeros_17 ?_
    refine ev_istore_n (by decide) hC d_Int_numberOfTrailingZeros_18 ?_
    refine ev_iload_n rfl hC d_Int_numberOfTrailingZeros_19 ?_
    refine ev_ldcw kc_Int_264 hC d_Int_numberOfTrailingZeros_20 ?_
    refine ev_icmp_le 34 hC d_Int_numberOfTrailingZeros_23 rfl (fun _ => ?_) (fun h => absurd (by decide) h)
    refine ev_iload_n rfl hC d_Int_numberOfTrailingZeros_34 ?_
    refine ev_sipush (v := 256) rfl hC d_Int_numberOfTrailingZeros_35 ?_
    refine ev_icmp_le 49 hC d_Int_numberOfTrailingZeros_38 rfl (fun _ => ?_) (fun h => absurd (by decide) h)
    refine ev_iload_n rfl hC d_Int_numberOfTrailingZeros_49 ?_
    refine ev_bipush (v := 16) rfl hC d_Int_numberOfTrailingZeros_50 ?_
    refine ev_icmp_le 62 hC d_Int_numberOfTrailingZeros_52 rfl (fun h => absurd h (by decide)) (fun _ => ?_)
    refine ev_iinc rfl (by decide) (rfl) hC d_Int_numberOfTrailingZeros_55 ?_
    refine ev_iload_n rfl hC d_Int_numberOfTrailingZeros_58 ?_
    refine ev_iconst (v := 4) rfl hC d_Int_numberOfTrailingZeros_59 ?_
    refine ev_iushr hC d_Int_numberOfTrailingZeros_60 ?_
    refine ev_istore_n (by decide) hC d_Int_numberOfTrailingZeros_61 ?_
    refine ev_iload_n rfl hC d_Int_numberOfTrailingZeros_62 ?_
    refine ev_iconst (v := 4) rfl hC d_Int_numberOfTrailingZeros_63 ?_
    refine ev_icmp_le 74 hC d_Int_numberOfTrailingZeros_64 rfl (fun _ => ?_) (fun h => absurd (by decide) h)
    refine ev_iload_n rfl hC d_Int_numberOfTrailingZeros_74 ?_
    refine ev_iload_n rfl hC d_Int_numberOfTrailingZeros_75 ?_
    refine ev_iconst (v := 1) rfl hC d_Int_numberOfTrailingZeros_76 ?_
    refine ev_iushr hC d_Int_numberOfTrailingZeros_77 ?_
    refine ev_iadd hC d_Int_numberOfTrailingZeros_78 ?_
    exact ev_iret hC hR d_Int_numberOfTrailingZeros_79 rfl (by decide +kernel) rfl
  · refine ev_istore_n (by decide) hC d_Int_numberOfTrailingZeros_7 ?_
    refine ev_iload_n rfl hC d_Int_numberOfTrailingZeros_8 ?_
    refine ev_if_gt 17 hC d_Int_numberOfTrailingZeros_9 rfl (fun _ => ?_) (fun h => absurd (by decide) h)
    refine ev_iconst (v := 1) rfl hC d_Int_numberOfTrailingZeros_17 ?_
    refine ev_istore_n (by decide) hC d_Int_numberOfTrailingZeros_18 ?_
    refine ev_iload_n rfl hC d_Int_numberOfTrailingZeros_19 ?_
    refine ev_ldcw kc_Int_264 hC d_Int_numberOfTrailingZeros_20 ?_
    refine ev_icmp_le 34 hC d_Int_numberOfTrailingZeros_23 rfl (fun _ => ?_) (fun h => absurd (by decide) h)
    refine ev_iload_n rfl hC d_Int_numberOfTrailingZeros_34 ?_
    refine ev_sipush (v := 256) rfl hC d_Int_numberOfTrailingZeros_35 ?_
    refine ev_icmp_le 49 hC d_Int_numberOfTrailingZeros_38 rfl (fun _ => ?_) (fun h => absurd (by decide) h)
    refine ev_iload_n rfl hC d_Int_numberOfTrailingZeros_49 ?_
    refine ev_bipush (v := 16) rfl hC d_Int_numberOfTrailingZeros_50 ?_
    refine ev_icmp_le 62 hC d_Int_numberOfTrailingZeros_52 rfl (fun h => absurd h (by decide)) (fun _ => ?_)
    refine ev_iinc rfl (by decide) (rfl) hC d_Int_numberOfTrailingZeros_55 ?_
    refine ev_iload_n rfl hC d_Int_numberOfTrailingZeros_58 ?_
    refine ev_iconst (v := 4) rfl hC d_Int_numberOfTrailingZeros_59 ?_
    refine ev_iushr hC d_Int_numberOfTrailingZeros_60 ?_
    refine ev_istore_n (by decide) hC d_Int_numberOfTrailingZeros_61 ?_
    refine ev_iload_n rfl hC d_Int_numberOfTrailingZeros_62 ?_
    refine ev_iconst (v := 4) rfl hC d_Int_numberOfTrailingZeros_63 ?_
    refine ev_icmp_le 74 hC d_Int_numberOfTrailingZeros_64 rfl (fun h => absurd h (by decide)) (fun _ => ?_)
    refine ev_iinc rfl (by decide) (rfl) hC d_Int_numberOfTrailingZeros_67 ?_
    refine ev_iload_n rfl hC d_Int_numberOfTrailingZeros_70 ?_
    refine ev_iconst (v := 2) rfl hC d_Int_numberOfTrailingZeros_71 ?_
    refine ev_iushr hC d_Int_numberOfTrailingZeros_72 ?_
    refine ev_istore_n (by decide) hC d_Int_numberOfTrailingZeros_73 ?_
    refine ev_iload_n rfl hC d_Int_numberOfTrailingZeros_74 ?_
    refine ev_iload_n rfl hC d_Int_numberOfTrailingZeros_75 ?_
    refine ev_iconst (v := 1) rfl hC d_Int_numberOfTrailingZeros_76 ?_
    refine ev_iushr hC d_Int_numberOfTrailingZeros_77 ?_
    refine ev_iadd hC d_Int_numberOfTrailingZeros_78 ?_
    exact ev_iret hC hR d_Int_numberOfTrailingZeros_79 rfl (by decide +kernel) rfl

set_option maxHeartbeats 2000000 in
set_option maxRecDepth 10000 in
theorem c_Str_coder {G : ex_G} {M : ex_M} {i : Nat} (hi : i < 14) : Con G Y_Str_coder 0 0 0 0 [.ref (ex_sK G i)] (ce G M) (some (.int 0)) (ce G (M)) := by
  refine Con.ofF (by decide +kernel) (Nat.le_of_ble_eq_true rfl) (fun C hC hR => ?_)
  show Ev G C Y_Str_coder 0 [some (.ref (ex_sK G i))] [] 0 0 (ce G M)
  refine ev_compact hC d_Str_coder_0 fl_Str_38 ?_
  refine ev_if_eq 13 hC d_Str_coder_3 rfl (fun h_3 => ?_) (fun h_3 => ?_)
  · refine ev_iconst (v := 1) rfl hC d_Str_coder_13 ?_
    exact ev_zret hC hR d_Str_coder_14 rfl (by decide) (by first | rfl | exact absurd h_3 (by decide)) (rfl)
  · refine ev_aload_n rfl hC d_Str_coder_6 ?_
    refine ev_strCoder hC d_Str_coder_7 hi fl_Str_15 ?_
    refine ev_goto 14 hC d_Str_coder_10 rfl ?_
    exact ev_zret hC hR d_Str_coder_14 rfl (by decide) (by first | rfl | exact absurd h_3 (by decide)) (rfl)

set_option maxHeartbeats 2000000 in
set_option maxRecDepth 10000 in
theorem c_Str_isLatin1 {G : ex_G} {M : ex_M} {i : Nat} (hi : i < 14) : Con G Y_Str_isLatin1 0 0 0 0 [.ref (ex_sK G i)] (ce G M) (some (.int (bi true))) (ce G (M)) := by
  refine Con.ofF (by decide +kernel) (Nat.le_of_ble_eq_true rfl) (fun C hC hR => ?_)
  show Ev G C Y_Str_isLatin1 0 [some (.ref (ex_sK G i))] [] 0 0 (ce G M)
  refine ev_compact hC d_Str_isLatin1_0 fl_Str_38 ?_
  refine ev_if_eq 17 hC d_Str_isLatin1_3 rfl (fun h_3 => ?_) (fun h_3 => ?_)
  · refine ev_iconst (v := 0) rfl hC d_Str_isLatin1_17 ?_
    exact ev_zret hC hR d_Str_isLatin1_18 rfl (by first | exact bi_nar _ | decide) (by first | rfl | exact absurd h_3 (by decide) | exact absurd rfl h_10) (rfl)
  · refine ev_aload_n rfl hC d_Str_isLatin1_6 ?_
    refine ev_strCoder hC d_Str_isLatin1_7 hi fl_Str_15 ?_
    refine ev_if_ne 17 hC d_Str_isLatin1_10 rfl (fun h_10 => ?_) (fun h_10 => ?_)
    · refine ev_iconst (v := 0) rfl hC d_Str_isLatin1_17 ?_
      exact ev_zret hC hR d_Str_isLatin1_18 rfl (by first | exact bi_nar _ | decide) (by first | rfl | exact absurd h_3 (by decide) | exact absurd rfl h_10) (rfl)
    · refine ev_iconst (v := 1) rfl hC d_Str_isLatin1_13 ?_
      refine ev_goto 18 hC d_Str_isLatin1_14 rfl ?_
      exact ev_zret hC hR d_Str_isLatin1_18 rfl (by first | exact bi_nar _ | decide) (by first | rfl | exact absurd h_3 (by decide) | exact absurd rfl h_10) (rfl)

set_option maxHeartbeats 2000000 in
set_option maxRecDepth 10000 in
theorem c_Str_length {G : ex_G} {M : ex_M} {i : Nat} (hi : i < 14) : Con G Y_Str_length 1 20 0 0 [.ref (ex_sK G i)] (ce G M) (some (.int (nI (wln i)))) (ce G (M)) := by
  refine Con.ofF (by decide +kernel) (Nat.le_of_ble_eq_true rfl) (fun C hC hR => ?_)
  show Ev G C Y_Str_length 0 [some (.ref (ex_sK G i))] [] 0 0 (ce G M)
  refine ev_aload_n rfl hC d_Str_length_0 ?_
  refine ev_strValue hC d_Str_length_1 hi fl_Str_9 ?_
  refine ev_strLen hC d_Str_length_4 hi ?_
  refine ev_aload_n rfl hC d_Str_length_5 ?_
  refine ct_1 hC d_Str_length_6 (c_Str_coder (by first | assumption | omega)) mi_Str_coder ml_Str_335 im_Str_coder se_Str_coder rfl ⟨Nat.le_of_ble_eq_true rfl, Nat.le_of_ble_eq_true rfl⟩ ⟨Nat.le_of_ble_eq_true rfl, Nat.le_of_ble_eq_true rfl⟩ rfl rfl (Nat.le_of_ble_eq_true rfl) (by first | assumption | omega) ?_
  refine ev_ishr hC d_Str_length_9 ?_
  exact ev_iret hC hR d_Str_length_10 rfl (congrArg (fun z => some (Value.int z)) (sc_shr0 (n := wln i) (by have := wln_le i hi; omega)).symm) (rfl)

set_option maxHeartbeats 2000000 in
set_option maxRecDepth 10000 in
theorem c_Pre_checkIndex_null {G : ex_G} {M : ex_M} {x y : Int32} {a : Nat} (h0 : ¬ x < 0) (h1 : x < y) : Con G Y_Pre_checkIndex 0 0 0 0 [.int x, .int y, .null] (ce G M) (some (.int x)) (ce G (M)) := by
  refine Con.ofF (by decide +kernel) (Nat.le_of_ble_eq_true rfl) (fun C hC hR => ?_)
  show Ev G C Y_Pre_checkIndex 0 [some (.int x), some (.int y), some (.null)] [] 0 0 (ce G M)
  refine ev_iload_n rfl hC d_Pre_checkIndex_0 ?_
  refine ev_if_lt 9 hC d_Pre_checkIndex_1 rfl (fun h => absurd h h0) (fun _ => ?_)
  refine ev_iload_n rfl hC d_Pre_checkIndex_4 ?_
  refine ev_iload_n rfl hC d_Pre_checkIndex_5 ?_
  refine ev_icmp_lt 16 hC d_Pre_checkIndex_6 rfl (fun _ => ?_) (fun h => absurd h1 h)
  refine ev_iload_n rfl hC d_Pre_checkIndex_16 ?_
  exact ev_iret hC hR d_Pre_checkIndex_17 rfl rfl rfl

set_option maxHeartbeats 2000000 in
set_option maxRecDepth 10000 in
theorem c_Pre_checkIndex_ref {G : ex_G} {M : ex_M} {x y : Int32} {a : Nat} (h0 : ¬ x < 0) (h1 : x < y) : Con G Y_Pre_checkIndex 0 0 0 0 [.int x, .int y, .ref a] (ce G M) (some (.int x)) (ce G (M)) := by
  refine Con.ofF (by decide +kernel) (Nat.le_of_ble_eq_true rfl) (fun C hC hR => ?_)
  show Ev G C Y_Pre_checkIndex 0 [some (.int x), some (.int y), some (.ref a)] [] 0 0 (ce G M)
  refine ev_iload_n rfl hC d_Pre_checkIndex_0 ?_
  refine ev_if_lt 9 hC d_Pre_checkIndex_1 rfl (fun h => absurd h h0) (fun _ => ?_)
  refine ev_iload_n rfl hC d_Pre_checkIndex_4 ?_
  refine ev_iload_n rfl hC d_Pre_checkIndex_5 ?_
  refine ev_icmp_lt 16 hC d_Pre_checkIndex_6 rfl (fun _ => ?_) (fun h => absurd h1 h)
  refine ev_iload_n rfl hC d_Pre_checkIndex_16 ?_
  exact ev_iret hC hR d_Pre_checkIndex_17 rfl rfl rfl

set_option maxHeartbeats 2000000 in
set_option maxRecDepth 10000 in
theorem c_Str_checkIndex {G : ex_G} {M : ex_M} {x y : Int32} (h0 : ¬ x < 0) (h1 : x < y) : Con G Y_Str_checkIndex 1 22 0 0 [.int x, .int y] (ce G M) (none) (ce G (M)) := by
  refine Con.ofF (by decide +kernel) (Nat.le_of_ble_eq_true rfl) (fun C hC hR => ?_)
  show Ev G C Y_Str_checkIndex 0 [some (.int x), some (.int y)] [] 0 0 (ce G M)
  refine ev_iload_n rfl hC d_Str_checkIndex_0 ?_
  refine ev_iload_n rfl hC d_Str_checkIndex_1 ?_
  refine ev_format hC d_Str_checkIndex_2 fl_Str_1053 (fun v hv => ?_)
  rcases hv with e | ⟨a, e⟩ <;> subst e
  · refine cs_1 hC d_Str_checkIndex_5 (c_Pre_checkIndex_null (a := 0) h0 h1) mi_Pre_checkIndex ml_Str_1059 sm_Pre_checkIndex ⟨Nat.le_of_ble_eq_true rfl, Nat.le_of_ble_eq_true rfl⟩ ⟨Nat.le_of_ble_eq_true rfl, Nat.le_of_ble_eq_true rfl⟩ rfl rfl (Nat.le_of_ble_eq_true rfl) ?_
    refine ev_pop rfl hC d_Str_checkIndex_8 ?_
    exact ev_vret hC hR d_Str_checkIndex_9 rfl rfl rfl
  · refine cs_1 hC d_Str_checkIndex_5 (c_Pre_checkIndex_ref h0 h1) mi_Pre_checkIndex ml_Str_1059 sm_Pre_checkIndex ⟨Nat.le_of_ble_eq_true rfl, Nat.le_of_ble_eq_true rfl⟩ ⟨Nat.le_of_ble_eq_true rfl, Nat.le_of_ble_eq_true rfl⟩ rfl rfl (Nat.le_of_ble_eq_true rfl) ?_
    refine ev_pop rfl hC d_Str_checkIndex_8 ?_
    exact ev_vret hC hR d_Str_checkIndex_9 rfl rfl rfl

theorem wln_in {i k : Nat} (hi : i < 14) (hk : k < wln i) : ¬ nI k < 0 ∧ nI k < Int32.ofNat (ck_len.getD i 0) ∧ vp_in (nI k) (ck_len.getD i 0) := by
  have := wln_le i hi
  exact ⟨nI_pos (by omega), nI_lt hk (by unfold wln at this; omega), vp_in_nI hk (by unfold wln at this; omega)⟩

set_option maxHeartbeats 2000000 in
set_option maxRecDepth 10000 in
theorem c_Lat_charAt {G : ex_G} {M : ex_M} {i k : Nat} (hi : i < 14) (hk : k < wln i) : Con G Y_Lat_charAt 2 43 0 0 [.ref (ex_sV G i), .int (nI k)] (ce G M) (some (.int (wch i k))) (ce G (M)) := by
  refine Con.ofF (by decide +kernel) (Nat.le_of_ble_eq_true rfl) (fun C hC hR => ?_)
  show Ev G C Y_Lat_charAt 0 [some (.ref (ex_sV G i)), some (.int (nI k))] [] 0 0 (ce G M)
  refine ev_iload_n rfl hC d_Lat_charAt_0 ?_
  refine ev_aload_n rfl hC d_Lat_charAt_1 ?_
  refine ev_strLen hC d_Lat_charAt_2 hi ?_
  refine cs_0 hC d_Lat_charAt_3 (c_Str_checkIndex (wln_in hi hk).1 (wln_in hi hk).2.1) mi_Str_checkIndex ml_Lat_9 sm_Str_checkIndex ⟨Nat.le_of_ble_eq_true rfl, Nat.le_of_ble_eq_true rfl⟩ ⟨Nat.le_of_ble_eq_true rfl, Nat.le_of_ble_eq_true rfl⟩ rfl rfl (Nat.le_of_ble_eq_true rfl) ?_
  refine ev_aload_n rfl hC d_Lat_charAt_6 ?_
  refine ev_iload_n rfl hC d_Lat_charAt_7 ?_
  refine ev_strByte hC d_Lat_charAt_8 hi (wln_in hi hk).2.2 ?_
  refine ev_sipush (v := 255) rfl hC d_Lat_charAt_9 ?_
  refine ev_iand hC d_Lat_charAt_12 ?_
  refine ev_i2c hC d_Lat_charAt_13 ?_
  exact ev_zret hC hR d_Lat_charAt_14 rfl (by rw [nI_clamp (by have := wln_le i hi; omega)]; exact (congrArg (fun z => narrow .char (.int z)) (wch_all i hi k hk).1).trans ((wch_all i hi k hk).2.trans (congrArg Value.int (wch_all i hi k hk).1.symm))) (by rw [nI_clamp (by have := wln_le i hi; omega)]; exact congrArg (fun z => some (Value.int z)) (wch_all i hi k hk).1.symm) (rfl)

set_option maxHeartbeats 2000000 in
set_option maxRecDepth 10000 in
theorem c_Str_charAt {G : ex_G} {M : ex_M} {i k : Nat} (hi : i < 14) (hk : k < wln i) : Con G Y_Str_charAt 3 64 0 0 [.ref (ex_sK G i), .int (nI k)] (ce G M) (some (.int (wch i k))) (ce G (M)) := by
  refine Con.ofF (by decide +kernel) (Nat.le_of_ble_eq_true rfl) (fun C hC hR => ?_)
  show Ev G C Y_Str_charAt 0 [some (.ref (ex_sK G i)), some (.int (nI k))] [] 0 0 (ce G M)
  refine ev_aload_n rfl hC d_Str_charAt_0 ?_
  refine ct_1 hC d_Str_charAt_1 (c_Str_isLatin1 (by first | assumption | omega)) mi_Str_isLatin1 ml_Str_492 im_Str_isLatin1 se_Str_isLatin1 rfl ⟨Nat.le_of_ble_eq_true rfl, Nat.le_of_ble_eq_true rfl⟩ ⟨Nat.le_of_ble_eq_true rfl, Nat.le_of_ble_eq_true rfl⟩ rfl rfl (Nat.le_of_ble_eq_true rfl) (by first | assumption | omega) ?_
  refine eb_eq 16 hC d_Str_charAt_4 rfl (fun h => absurd h (by decide)) (fun _ => ?_)
  refine ev_aload_n rfl hC d_Str_charAt_7 ?_
  refine ev_strValue hC d_Str_charAt_8 hi fl_Str_9 ?_
  refine ev_iload_n rfl hC d_Str_charAt_11 ?_
  refine cs_1 hC d_Str_charAt_12 (c_Lat_charAt (by first | assumption | omega) (by first | assumption | omega)) mi_Lat_charAt ml_Str_495 sm_Lat_charAt ⟨Nat.le_of_ble_eq_true rfl, Nat.le_of_ble_eq_true rfl⟩ ⟨Nat.le_of_ble_eq_true rfl, Nat.le_of_ble_eq_true rfl⟩ rfl rfl (Nat.le_of_ble_eq_true rfl) ?_
  exact ev_zret hC hR d_Str_charAt_15 rfl ((wch_all i hi k hk).2) (rfl) (rfl)
