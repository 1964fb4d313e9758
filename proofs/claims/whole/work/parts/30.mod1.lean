/-! WHAT THE REFERENCE's CALLS ANSWER, and what they leave -/
def rbad (M : ex_M) (k : Nat) : Int32 × ex_M := (fnd k, mJ (mJ M 13 (k + 1) (M.1 13 (k + 1) + 1)) 13 0 (M.1 13 0 + 1))
def hs1 (k e : Int32) : Bool := decide ((k >>> (e &&& 31)) &&& 1 = 1)
def R_toll (M : ex_M) (v : Int32) : Int32 × ex_M := bif out v 0 99 then rbad M 0 else (M.1 10 1, mJ M 10 1 v)
def R_event (M : ex_M) (h w : Int32) : Int32 × ex_M := bif out h 0 9999 || out w (-99) 99 then rbad M 0 else if M.1 10 2 = 8 then rbad M 1 else (M.1 10 2, mI M 10 (upd (eBeg (M.1 10) (ix (M.1 10 2)) h w) 2 (M.1 10 2 + 1)))
def whoR (a : Nat → Int32) (np : Nat) (e : Int32) : Int32 := setF (fun i => hs1 (a (28 + 7 * i + 6)) e) np 0 0
def R_eventOf (M : ex_M) (np : Nat) (e w : Int32) : Int32 × ex_M := bif out e 0 (M.1 10 2 - 1) || out w 0 5 then rbad M 0 else
  if w = 3 then (whoR (M.1 10) np e, M) else if w = 4 then (if -1 < M.1 10 (4 + 3 * ix e + 0) - M.1 10 0 then M.1 10 (4 + 3 * ix e + 0) - M.1 10 0 else -1, M) else if w = 5 then (if M.1 10 (4 + 3 * ix e + 2) = 1 then -1 else if -1 < M.1 10 (4 + 3 * ix e + 0) - M.1 10 0 + 24 then M.1 10 (4 + 3 * ix e + 0) - M.1 10 0 + 24 else -1, M) else (M.1 10 (4 + 3 * ix e + ix w), M)
def R_worth (M : ex_M) (e v : Int32) : Int32 × ex_M := bif out e 0 (M.1 10 2 - 1) || out v (-99) 99 then rbad M 0 else (M.1 10 (4 + 3 * ix e + 1), mJ M 10 (4 + 3 * ix e + 1) v)
def oCom (a : Nat → Int32) (i : Nat) (k b p g c : Int32) : Nat → Int32 := upd (upd (upd (upd (upd (upd (upd a (28 + 7 * i + 0) k) (28 + 7 * i + 1) b) (28 + 7 * i + 2) p) (28 + 7 * i + 3) g) (28 + 7 * i + 4) c) (28 + 7 * i + 5) 0) (28 + 7 * i + 6) 0
theorem oCom_lo {a : Nat → Int32} {i q : Nat} {k b p g c : Int32} (h : q < 28) : oCom a i k b p g c q = a q := by unfold oCom; rw [ud_n (by omega), ud_n (by omega), ud_n (by omega), ud_n (by omega), ud_n (by omega), ud_n (by omega), ud_n (by omega)]
def R_one (M : ex_M) (k b : Int32) : Int32 × ex_M := bif out k 0 5 || out b 0 1 then rbad M 0 else if M.1 10 3 = 8 then rbad M 1 else (M.1 10 3, mI M 10 (upd (oCom (M.1 10) (ix (M.1 10 3)) k b 50 (-1) (-1)) 3 (M.1 10 3 + 1)))
def R_of (M : ex_M) (p w : Int32) : Int32 × ex_M := bif out p 0 (M.1 10 3 - 1) || out w 0 6 then rbad M 0 else (M.1 10 (28 + 7 * ix p + ix w), M)
def R_set (M : ex_M) (p w v : Int32) : Int32 × ex_M := bif out p 0 (M.1 10 3 - 1) then rbad M 0 else bif may (M.1 10 2) w v then (M.1 10 (28 + 7 * ix p + ix w), mJ M 10 (28 + 7 * ix p + ix w) v) else rbad M 0
def R_turn (M : ex_M) (p k : Int32) : Int32 × ex_M := bif out p 0 (M.1 10 3 - 1) || out k 0 5 then rbad M 0 else (M.1 10 (28 + 7 * ix p + 0), mJ M 10 (28 + 7 * ix p + 0) k)
def R_as (M : ex_M) (p k : Int32) : Int32 × ex_M := bif out p 0 (M.1 10 3 - 1) || out k 0 5 then rbad M 0 else bif undF 6 (M.1 10 (28 + 7 * ix p + 0)) k then (M.1 10 (28 + 7 * ix p + 2), M) else rbad M 2
def R_gains (M : ex_M) (p w k : Int32) : Int32 × ex_M := bif out p 0 (M.1 10 3 - 1) || (out w (-99) 99 || out k 0 1) then rbad M 0 else (gainM (M.1 10 (28 + 7 * ix p + 0)) w (decide (k = 1)), M)
def oPay (a : Nat → Int32) (i : Nat) (v : Int32) : Nat → Int32 := upd a (28 + 7 * i + 2) (cut (a (28 + 7 * i + 2) + v))
def oOvR (a : Nat → Int32) (i : Nat) : Nat → Int32 := upd (upd (oPay a i (-a 1)) (28 + 7 * i + 5) (a (28 + 7 * i + 5) + 1)) (28 + 7 * i + 1) (1 - a (28 + 7 * i + 1))
def R_cross (M : ex_M) (p : Int32) : Int32 × ex_M := bif out p 0 (M.1 10 3 - 1) then rbad M 0 else bif pays (M.1 10) (ix p) then (1 - M.1 10 (28 + 7 * ix p + 1), mI M 10 (oOvR (M.1 10) (ix p))) else rbad M 4
def oTel (a : Nat → Int32) (f t : Nat) : Nat → Int32 := upd a (28 + 7 * t + 6) (a (28 + 7 * t + 6) ||| a (28 + 7 * f + 6))
def telN (a : Nat → Int32) (f t : Nat) : Int32 := nI (popc (ix (a (28 + 7 * t + 6) ||| a (28 + 7 * f + 6)))) - nI (popc (ix (a (28 + 7 * t + 6))))
def R_tells (M : ex_M) (p q : Int32) : Int32 × ex_M := bif out p 0 (M.1 10 3 - 1) || (out q 0 (M.1 10 3 - 1) || decide (p = q)) then rbad M 0 else if M.1 10 (28 + 7 * ix p + 1) = M.1 10 (28 + 7 * ix q + 1) then (telN (M.1 10) (ix p) (ix q), mI M 10 (oTel (M.1 10) (ix p) (ix q))) else rbad M 4
theorem or_small {a b : Nat} (ha : a < 256) (hb : b < 256) : a ||| b < 256 := Nat.or_lt_two_pow (n := 8) ha hb
theorem or_0 (x : Int32) : x ||| 0 = x := Int32.or_zero
def cpf (k : Nat) (a b : Nat → Int32) : Nat → Int32 := fun j => if j < k then a j else b j
theorem cpf_0 (a b : Nat → Int32) : cpf 0 a b = b := by funext j; simp [cpf]
theorem cpf_s (k : Nat) (a b : Nat → Int32) : upd (cpf k a b) k (a k) = cpf (k + 1) a b := by
  funext j
  simp only [upd, cpf]
  by_cases h : j = k
  · subst h; simp
  · rw [if_neg h]
    by_cases h2 : j < k
    · rw [if_pos h2, if_pos (by omega)]
    · rw [if_neg h2, if_neg (by omega)]
section EvNeg
variable {G : ex_G} {C : ex_C} {Y : ex_Y} {R0 : Room} {pc cl sl : Nat} {L : List (Option Value)} {S : List Value} {es : List va_E}
theorem en_eq {b : Bool} {off : Int} (tgt : Nat) (hC : Cx G C Y R0) (hd : decode Y.2.1 pc = .ok (.ifCond .eq off, 3)) (ht : (pc : Int) + off = (tgt : Int)) (kt : b = true → Ev G C Y tgt L S cl sl es) (kf : b = false → Ev G C Y (pc + 3) L S cl sl es) : Ev G C Y pc L (.int (bi (!b)) :: S) cl sl es := eb_eq tgt hC hd ht (fun h => kt (by simpa using h)) (fun h => kf (by simpa using h))
theorem en_ne {b : Bool} {off : Int} (tgt : Nat) (hC : Cx G C Y R0) (hd : decode Y.2.1 pc = .ok (.ifCond .ne off, 3)) (ht : (pc : Int) + off = (tgt : Int)) (kt : b = false → Ev G C Y tgt L S cl sl es) (kf : b = true → Ev G C Y (pc + 3) L S cl sl es) : Ev G C Y pc L (.int (bi (!b)) :: S) cl sl es := eb_ne tgt hC hd ht (fun h => kt (by simpa using h)) (fun h => kf (by simpa using h))
end EvNeg
section EvRow
variable {G : ex_G} {C : ex_C} {Y : ex_Y} {R0 : Room} {pc cl sl : Nat} {L : List (Option Value)} {S : List Value} {M : ex_M}
theorem ga_row {t i : Nat} (hC : Cx G C Y R0) (hd : decode Y.2.1 pc = .ok (.iaload, 1)) (ht : t < 3) (hi : i < 84) (k : Ev G C Y (pc + 1) L (.int (M.1 (10 + t) i) :: S) cl sl (ce G M)) : Ev G C Y pc L (.int (nI i) :: .ref (ex_b G + (72 + t)) :: S) cl sl (ce G M) := by
  rcases (by omega : t = 0 ∨ t = 1 ∨ t = 2) with e | e | e <;> subst e
  · exact ga_now hC hd hi k
  · exact ga_kept hC hd hi k
  · exact ga_aside hC hd hi k
theorem pa_row {t i : Nat} {v : Int32} (hC : Cx G C Y R0) (hd : decode Y.2.1 pc = .ok (.iastore, 1)) (ht : t < 3) (hi : i < 84) (k : Ev G C Y (pc + 1) L S cl sl (ce G (mJ M (10 + t) i v))) : Ev G C Y pc L (.int v :: .int (nI i) :: .ref (ex_b G + (72 + t)) :: S) cl sl (ce G M) := by
  rcases (by omega : t = 0 ∨ t = 1 ∨ t = 2) with e | e | e <;> subst e
  · exact pa_now hC hd hi k
  · exact pa_kept hC hd hi k
  · exact pa_aside hC hd hi k
end EvRow

set_option maxHeartbeats 2000000 in
set_option maxRecDepth 10000 in
theorem c_Mod_finding {G : ex_G} {M : ex_M} {k : Nat} {v : Int32} (hk : k < 7) (hv : v = fnd k) : Con G Y_Mod_finding 0 0 0 0 [.ref (ex_b G + 71), .int v] (ce G M) (some (.int v)) (ce G ((rbad M k).2)) := by
  refine Con.ofF (plainFor_of_name (by decide +kernel)) (Nat.le_of_ble_eq_true rfl) (fun C hC hR => ?_)
  show Ev G C Y_Mod_finding 0 [some (.ref (ex_b G + 71)), some (.int v)] [] 0 0 (ce G M)
  subst hv
  refine ev_aload_n rfl hC d_Mod_finding_0 ?_
  refine gv_Mod_found hC d_Mod_finding_1 fl_Mod_19  ?_
  refine ev_ldc kc_Mod_63 hC d_Mod_finding_4 ?_
  refine ev_iload_n rfl hC d_Mod_finding_6 ?_
  refine ev_isub hC d_Mod_finding_7 ?_
  refine ev_iconst (v := 1) rfl hC d_Mod_finding_8 ?_
  refine ev_iadd hC d_Mod_finding_9 ?_
  rw [fnd_row k hk, nI_1]
  refine ev_dup2 rfl rfl hC d_Mod_finding_10 ?_
  refine ga_found hC d_Mod_finding_11 (by first | assumption | omega) ?_
  refine ev_iconst (v := 1) rfl hC d_Mod_finding_12 ?_
  refine ev_iadd hC d_Mod_finding_13 ?_
  refine pa_found hC d_Mod_finding_14 (by first | assumption | omega) ?_
  refine ev_aload_n rfl hC d_Mod_finding_15 ?_
  refine gv_Mod_found hC d_Mod_finding_16 fl_Mod_19  ?_
  refine ev_iconst (v := nI 0) rfl hC d_Mod_finding_19 ?_
  refine ev_dup2 rfl rfl hC d_Mod_finding_20 ?_
  refine ga_found hC d_Mod_finding_21 (by first | assumption | omega) ?_
  refine ev_iconst (v := 1) rfl hC d_Mod_finding_22 ?_
  refine ev_iadd hC d_Mod_finding_23 ?_
  refine pa_found hC d_Mod_finding_24 (by first | assumption | omega) ?_
  refine ev_iload_n rfl hC d_Mod_finding_25 ?_
  exact ev_iret hC hR d_Mod_finding_26 rfl (rfl) (by simp only [rbad, mI, mJ, wr_wr, wr_s]; rw [ud_n (by omega)])

set_option maxHeartbeats 2000000 in
set_option maxRecDepth 10000 in
theorem c_Mod_become {G : ex_G} {M : ex_M} {i : Nat} {v : Int32} (hi : i < 84) : Con G Y_Mod_become 0 0 0 0 [.ref (ex_b G + 71), .int (nI i), .int v] (ce G M) (some (.int (M.1 10 i))) (ce G (mJ M 10 i v)) := by
  refine Con.ofF (plainFor_of_name (by decide +kernel)) (Nat.le_of_ble_eq_true rfl) (fun C hC hR => ?_)
  show Ev G C Y_Mod_become 0 [some (.ref (ex_b G + 71)), some (.int (nI i)), some (.int v)] [] 0 0 (ce G M)
  refine ev_aload_n rfl hC d_Mod_become_0 ?_
  refine gv_Mod_now hC d_Mod_become_1 fl_Mod_9  ?_
  refine ev_iload_n rfl hC d_Mod_become_4 ?_
  refine ga_now hC d_Mod_become_5 (by first | assumption | omega) ?_
  refine ev_istore_n (by decide) hC d_Mod_become_6 ?_
  refine ev_aload_n rfl hC d_Mod_become_7 ?_
  refine gv_Mod_now hC d_Mod_become_8 fl_Mod_9  ?_
  refine ev_iload_n rfl hC d_Mod_become_11 ?_
  refine ev_iload_n rfl hC d_Mod_become_12 ?_
  refine pa_now hC d_Mod_become_13 (by first | assumption | omega) ?_
  refine ev_iload_n rfl hC d_Mod_become_14 ?_
  exact ev_iret hC hR d_Mod_become_15 rfl (rfl) (rfl)

set_option maxHeartbeats 4000000 in
set_option maxRecDepth 10000 in
theorem lp_Mod_copyRow {G : ex_G} {C : ex_C} {ee : List va_E} {t u : Nat} {b : Nat → Int32} (ht : t < 3) (hu : u < 3) (hne : t ≠ u) (hC : Cx G C Y_Mod_copyRow { frames := 0, cells := 0, slots := 0, locals := 0 }) (hR : Cr G C Y_Mod_copyRow 0 0 none ee) :
    ∀ (m i : Nat) (M : ex_M), i + m = 84 → M.1 (10 + u) = cpf i (M.1 (10 + t)) b → ee = ce G (mI M (10 + u) (cpf 84 (M.1 (10 + t)) b)) → Ev G C Y_Mod_copyRow 2 [some (.ref (ex_b G + (72 + t))), some (.ref (ex_b G + (72 + u))), some (.int (nI i))] [] 0 0 (ce G (M)) := by
  intro m
  induction m with
  | zero =>
    intro i M hm hc he
    refine ev_iload_n rfl hC d_Mod_copyRow_2 ?_
    refine ev_bipush (v := 84) rfl hC d_Mod_copyRow_3 ?_
    refine ev_icmp_ge 20 hC d_Mod_copyRow_5 rfl (fun _ => ?_) (fun h => absurd (by rw [show (84 : Int32) = nI 84 from rfl]; exact nI_le (by omega) (by omega)) h)
    exact ev_vret hC hR d_Mod_copyRow_20 rfl rfl (by rw [he, show cpf 84 (M.1 (10 + t)) b = M.1 (10 + u) by rw [hc, show i = 84 by omega], mI_id])
  | succ m ih =>
    intro i M hm hc he
    have hi : i < 84 := by omega
    refine ev_iload_n rfl hC d_Mod_copyRow_2 ?_
    refine ev_bipush (v := 84) rfl hC d_Mod_copyRow_3 ?_
    refine ev_icmp_ge 20 hC d_Mod_copyRow_5 rfl (fun h => absurd h (by rw [show (84 : Int32) = nI 84 from rfl]; exact nI_ge (by omega) (by omega))) (fun _ => ?_)
    refine ev_aload_n rfl hC d_Mod_copyRow_8 ?_
    refine ev_iload_n rfl hC d_Mod_copyRow_9 ?_
    refine ev_aload_n rfl hC d_Mod_copyRow_10 ?_
    refine ev_iload_n rfl hC d_Mod_copyRow_11 ?_
    refine ga_row hC d_Mod_copyRow_12 ht hi ?_
    refine pa_row hC d_Mod_copyRow_13 hu hi ?_
    refine ev_iinc rfl (by decide) (nI_1 _) hC d_Mod_copyRow_14 ?_
    refine ev_goto 2 hC d_Mod_copyRow_17 rfl ?_
    refine ih (i + 1) _ (by omega) (by simp only [mJ, wr_s]; rw [wr_n (by omega), hc, cpf_s]) (by rw [he]; simp only [mI, mJ, wr_wr]; rw [wr_n (by omega)])

set_option maxHeartbeats 2000000 in
set_option maxRecDepth 10000 in
theorem c_Mod_copyRow {G : ex_G} {M : ex_M} {t u : Nat} (ht : t < 3) (hu : u < 3) (hne : t ≠ u) : Con G Y_Mod_copyRow 0 0 0 0 [.ref (ex_b G + (72 + t)), .ref (ex_b G + (72 + u))] (ce G M) (none) (ce G (mI M (10 + u) (cpf 84 (M.1 (10 + t)) (M.1 (10 + u))))) := by
  refine Con.ofF (plainFor_of_name (by decide +kernel)) (Nat.le_of_ble_eq_true rfl) (fun C hC hR => ?_)
  show Ev G C Y_Mod_copyRow 0 [some (.ref (ex_b G + (72 + t))), some (.ref (ex_b G + (72 + u)))] [] 0 0 (ce G M)
  refine ev_iconst (v := nI 0) rfl hC d_Mod_copyRow_0 ?_
  refine ev_istore_n (by decide) hC d_Mod_copyRow_1 ?_
  exact lp_Mod_copyRow ht hu hne hC hR 84 0 M (by omega) (by rw [cpf_0]) rfl

set_option maxHeartbeats 2000000 in
set_option maxRecDepth 10000 in
theorem c_Mod_putBack {G : ex_G} {M : ex_M} {v : Int32} : Con G Y_Mod_putBack 1 22 0 0 [.ref (ex_b G + 71), .int v] (ce G M) (some (.int v)) (ce G (mI M 10 (cpf 84 (M.1 12) (M.1 10)))) := by
  refine Con.ofF (plainFor_of_name (by decide +kernel)) (Nat.le_of_ble_eq_true rfl) (fun C hC hR => ?_)
  show Ev G C Y_Mod_putBack 0 [some (.ref (ex_b G + 71)), some (.int v)] [] 0 0 (ce G M)
  refine ev_aload_n rfl hC d_Mod_putBack_0 ?_
  refine gv_Mod_aside hC d_Mod_putBack_1 fl_Mod_16  ?_
  refine ev_aload_n rfl hC d_Mod_putBack_4 ?_
  refine gv_Mod_now hC d_Mod_putBack_5 fl_Mod_9  ?_
  refine cs_0 hC d_Mod_putBack_8 (c_Mod_copyRow (t := 2) (u := 0) (by decide) (by decide) (by decide)) mi_Mod_copyRow ml_Mod_64 sm_Mod_copyRow ⟨Nat.le_of_ble_eq_true rfl, Nat.le_of_ble_eq_true rfl⟩ ⟨Nat.le_of_ble_eq_true rfl, Nat.le_of_ble_eq_true rfl⟩ rfl rfl (Nat.le_of_ble_eq_true rfl) ?_
  refine ev_iload_n rfl hC d_Mod_putBack_11 ?_
  exact ev_iret hC hR d_Mod_putBack_12 rfl (rfl) (rfl)

set_option maxHeartbeats 2000000 in
set_option maxRecDepth 10000 in
theorem c_Mod_toll {G : ex_G} {M : ex_M} {v : Int32} : Con G Y_Mod_toll 1 23 0 0 [.ref (ex_b G + 71), .int v] (ce G M) (some (.int (R_toll M v).1)) (ce G ((R_toll M v).2)) := by
  refine Con.ofF (plainFor_of_name (by decide +kernel)) (Nat.le_of_ble_eq_true rfl) (fun C hC hR => ?_)
  show Ev G C Y_Mod_toll 0 [some (.ref (ex_b G + 71)), some (.int v)] [] 0 0 (ce G M)
  refine ev_iload_n rfl hC d_Mod_toll_0 ?_
  refine ev_iconst (v := 0) rfl hC d_Mod_toll_1 ?_
  refine ev_bipush (v := 99) rfl hC d_Mod_toll_2 ?_
  refine cs_1 hC d_Mod_toll_4 (c_Mod_within ) mi_Mod_within ml_Mod_68 sm_Mod_within ⟨Nat.le_of_ble_eq_true rfl, Nat.le_of_ble_eq_true rfl⟩ ⟨Nat.le_of_ble_eq_true rfl, Nat.le_of_ble_eq_true rfl⟩ rfl rfl (Nat.le_of_ble_eq_true rfl) ?_
  refine en_eq 19 hC d_Mod_toll_7 rfl (fun h_7 => ?_) (fun h_7 => ?_)
  · refine ev_aload_n rfl hC d_Mod_toll_19 ?_
    refine ev_ldc kc_Mod_63 hC d_Mod_toll_20 ?_
    refine cv_Mod1 hC d_Mod_toll_22 (c_Mod_finding (k := 0) (by omega) (by decide +kernel)) mi_Mod_finding ml_Mod_82 im_Mod_finding se_Mod_finding rfl ⟨Nat.le_of_ble_eq_true rfl, Nat.le_of_ble_eq_true rfl⟩ ⟨Nat.le_of_ble_eq_true rfl, Nat.le_of_ble_eq_true rfl⟩ rfl rfl (Nat.le_of_ble_eq_true rfl)  ?_
    exact ev_iret hC hR d_Mod_toll_25 rfl (by simp only [R_toll, rbad, h_7, if_true, if_false, cond_true, cond_false, decide_true, decide_false, Bool.not_true, Bool.not_false, Bool.or_true, Bool.true_or, Bool.or_false, Bool.false_or, Bool.and_true, Bool.and_false, Bool.true_and, Bool.false_and, Bool.or_self, Bool.and_self, eq_self] <;> first | rfl | (rfl)) (by simp only [R_toll, rbad, h_7, if_true, if_false, cond_true, cond_false, decide_true, decide_false, Bool.not_true, Bool.not_false, Bool.or_true, Bool.true_or, Bool.or_false, Bool.false_or, Bool.and_true, Bool.and_false, Bool.true_and, Bool.false_and, Bool.or_self, Bool.and_self, eq_self] <;> first | rfl | (rfl))
  · refine ev_aload_n rfl hC d_Mod_toll_10 ?_
    refine ev_iconst (v := nI 1) rfl hC d_Mod_toll_11 ?_
    refine ev_iload_n rfl hC d_Mod_toll_12 ?_
    refine cv_Mod1 hC d_Mod_toll_13 (c_Mod_become (i := 1) (by omega)) mi_Mod_become ml_Mod_79 im_Mod_become se_Mod_become rfl ⟨Nat.le_of_ble_eq_true rfl, Nat.le_of_ble_eq_true rfl⟩ ⟨Nat.le_of_ble_eq_true rfl, Nat.le_of_ble_eq_true rfl⟩ rfl rfl (Nat.le_of_ble_eq_true rfl)  ?_
    refine ev_goto 25 hC d_Mod_toll_16 rfl ?_
    exact ev_iret hC hR d_Mod_toll_25 rfl (by simp only [R_toll, rbad, h_7, if_true, if_false, cond_true, cond_false, decide_true, decide_false, Bool.not_true, Bool.not_false, Bool.or_true, Bool.true_or, Bool.or_false, Bool.false_or, Bool.and_true, Bool.and_false, Bool.true_and, Bool.false_and, Bool.or_self, Bool.and_self, eq_self] <;> first | rfl | (rfl)) (by simp only [R_toll, rbad, h_7, if_true, if_false, cond_true, cond_false, decide_true, decide_false, Bool.not_true, Bool.not_false, Bool.or_true, Bool.true_or, Bool.or_false, Bool.false_or, Bool.and_true, Bool.and_false, Bool.true_and, Bool.false_and, Bool.or_self, Bool.and_self, eq_self] <;> first | rfl | (rfl))

set_option maxHeartbeats 2000000 in
set_option maxRecDepth 10000 in
theorem c_Mod_happens {G : ex_G} {M : ex_M} {n : Nat} {h w : Int32} (hn : n < 8) (hc : M.1 10 2 = nI n) : Con G Y_Mod_happens 1 21 0 0 [.ref (ex_b G + 71), .int h, .int w] (ce G M) (some (.int (nI n))) (ce G (mI M 10 (upd (eBeg (M.1 10) n h w) 2 (nI (n + 1))))) := by
  refine Con.ofF (plainFor_of_name (by decide +kernel)) (Nat.le_of_ble_eq_true rfl) (fun C hC hR => ?_)
  show Ev G C Y_Mod_happens 0 [some (.ref (ex_b G + 71)), some (.int h), some (.int w)] [] 0 0 (ce G M)
  refine ev_aload_n rfl hC d_Mod_happens_0 ?_
  refine gv_Mod_now hC d_Mod_happens_1 fl_Mod_9  ?_
  refine ev_iconst (v := nI 2) rfl hC d_Mod_happens_4 ?_
  refine ga_now hC d_Mod_happens_5 (by first | assumption | omega) ?_
  rw [hc]
  refine ev_istore_n (by decide) hC d_Mod_happens_6 ?_
  refine ev_aload_n rfl hC d_Mod_happens_7 ?_
  refine gv_Mod_now hC d_Mod_happens_8 fl_Mod_9  ?_
  refine ev_iload_n rfl hC d_Mod_happens_11 ?_
  refine ev_iconst (v := nI 0) rfl hC d_Mod_happens_12 ?_
  refine cs_1 hC d_Mod_happens_13 (c_Mod_atEvent ) mi_Mod_atEvent ml_Mod_72 sm_Mod_atEvent ⟨Nat.le_of_ble_eq_true rfl, Nat.le_of_ble_eq_true rfl⟩ ⟨Nat.le_of_ble_eq_true rfl, Nat.le_of_ble_eq_true rfl⟩ rfl rfl (Nat.le_of_ble_eq_true rfl) ?_
  refine ev_iload_n rfl hC d_Mod_happens_16 ?_
  refine pa_now hC d_Mod_happens_17 (by first | assumption | omega) ?_
  refine ev_aload_n rfl hC d_Mod_happens_18 ?_
  refine gv_Mod_now hC d_Mod_happens_19 fl_Mod_9  ?_
  refine ev_iload_n rfl hC d_Mod_happens_22 ?_
  refine ev_iconst (v := nI 1) rfl hC d_Mod_happens_23 ?_
  refine cs_1 hC d_Mod_happens_24 (c_Mod_atEvent ) mi_Mod_atEvent ml_Mod_72 sm_Mod_atEvent ⟨Nat.le_of_ble_eq_true rfl, Nat.le_of_ble_eq_true rfl⟩ ⟨Nat.le_of_ble_eq_true rfl, Nat.le_of_ble_eq_true rfl⟩ rfl rfl (Nat.le_of_ble_eq_true rfl) ?_
  refine ev_iload_n rfl hC d_Mod_happens_27 ?_
  refine pa_now hC d_Mod_happens_28 (by first | assumption | omega) ?_
  refine ev_aload_n rfl hC d_Mod_happens_29 ?_
  refine gv_Mod_now hC d_Mod_happens_30 fl_Mod_9  ?_
  refine ev_iload_n rfl hC d_Mod_happens_33 ?_
  refine ev_iconst (v := nI 2) rfl hC d_Mod_happens_34 ?_
  refine cs_1 hC d_Mod_happens_35 (c_Mod_atEvent ) mi_Mod_atEvent ml_Mod_72 sm_Mod_atEvent ⟨Nat.le_of_ble_eq_true rfl, Nat.le_of_ble_eq_true rfl⟩ ⟨Nat.le_of_ble_eq_true rfl, Nat.le_of_ble_eq_true rfl⟩ rfl rfl (Nat.le_of_ble_eq_true rfl) ?_
  refine ev_iconst (v := 0) rfl hC d_Mod_happens_38 ?_
  refine pa_now hC d_Mod_happens_39 (by first | assumption | omega) ?_
  refine ev_aload_n rfl hC d_Mod_happens_40 ?_
  refine gv_Mod_now hC d_Mod_happens_41 fl_Mod_9  ?_
  refine ev_iconst (v := nI 2) rfl hC d_Mod_happens_44 ?_
  refine ev_dup2 rfl rfl hC d_Mod_happens_45 ?_
  refine ga_now hC d_Mod_happens_46 (by first | assumption | omega) ?_
  refine ev_iconst (v := 1) rfl hC d_Mod_happens_47 ?_
  refine ev_iadd hC d_Mod_happens_48 ?_
  refine pa_now hC d_Mod_happens_49 (by first | assumption | omega) ?_
  refine ev_iload_n rfl hC d_Mod_happens_50 ?_
  exact ev_iret hC hR d_Mod_happens_51 rfl (rfl) (by simp only [mI, mJ, wr_wr, wr_s]; rw [show upd (upd (upd (M.1 10) (4 + 3 * n + 0) h) (4 + 3 * n + 1) w) (4 + 3 * n + 2) 0 2 = nI n from (eBeg_lo (by omega)).trans hc, nI_1]; rfl)

set_option maxHeartbeats 2000000 in
set_option maxRecDepth 10000 in
theorem c_Mod_comes {G : ex_G} {M : ex_M} {n : Nat} {k b p g c : Int32} (hn : n < 8) (hc : M.1 10 3 = nI n) : Con G Y_Mod_comes 1 21 0 0 [.ref (ex_b G + 71), .int k, .int b, .int p, .int g, .int c] (ce G M) (some (.int (nI n))) (ce G (mI M 10 (upd (oCom (M.1 10) n k b p g c) 3 (nI (n + 1))))) := by
  refine Con.ofF (plainFor_of_name (by decide +kernel)) (Nat.le_of_ble_eq_true rfl) (fun C hC hR => ?_)
  show Ev G C Y_Mod_comes 0 [some (.ref (ex_b G + 71)), some (.int k), some (.int b), some (.int p), some (.int g), some (.int c)] [] 0 0 (ce G M)
  refine ev_aload_n rfl hC d_Mod_comes_0 ?_
  refine gv_Mod_now hC d_Mod_comes_1 fl_Mod_9  ?_
  refine ev_iconst (v := nI 3) rfl hC d_Mod_comes_4 ?_
  refine ga_now hC d_Mod_comes_5 (by first | assumption | omega) ?_
  rw [hc]
  refine ev_istore (by decide) hC d_Mod_comes_6 ?_
  refine ev_aload_n rfl hC d_Mod_comes_8 ?_
  refine gv_Mod_now hC d_Mod_comes_9 fl_Mod_9  ?_
  refine ev_iload rfl hC d_Mod_comes_12 ?_
  refine ev_iconst (v := nI 0) rfl hC d_Mod_comes_14 ?_
  refine cs_1 hC d_Mod_comes_15 (c_Mod_at ) mi_Mod_at ml_Mod_76 sm_Mod_at ⟨Nat.le_of_ble_eq_true rfl, Nat.le_of_ble_eq_true rfl⟩ ⟨Nat.le_of_ble_eq_true rfl, Nat.le_of_ble_eq_true rfl⟩ rfl rfl (Nat.le_of_ble_eq_true rfl) ?_
  refine ev_iload_n rfl hC d_Mod_comes_18 ?_
  refine pa_now hC d_Mod_comes_19 (by first | assumption | omega) ?_
  refine ev_aload_n rfl hC d_Mod_comes_20 ?_
  refine gv_Mod_now hC d_Mod_comes_21 fl_Mod_9  ?_
  refine ev_iload rfl hC d_Mod_comes_24 ?_
  refine ev_iconst (v := nI 1) rfl hC d_Mod_comes_26 ?_
  refine cs_1 hC d_Mod_comes_27 (c_Mod_at ) mi_Mod_at ml_Mod_76 sm_Mod_at ⟨Nat.le_of_ble_eq_true rfl, Nat.le_of_ble_eq_true rfl⟩ ⟨Nat.le_of_ble_eq_true rfl, Nat.le_of_ble_eq_true rfl⟩ rfl rfl (Nat.le_of_ble_eq_true rfl) ?_
  refine ev_iload_n rfl hC d_Mod_comes_30 ?_
  refine pa_now hC d_Mod_comes_31 (by first | assumption | omega) ?_
  refine ev_aload_n rfl hC d_Mod_comes_32 ?_
  refine gv_Mod_now hC d_Mod_comes_33 fl_Mod_9  ?_
  refine ev_iload rfl hC d_Mod_comes_36 ?_
  refine ev_iconst (v := nI 2) rfl hC d_Mod_comes_38 ?_
  refine cs_1 hC d_Mod_comes_39 (c_Mod_at ) mi_Mod_at ml_Mod_76 sm_Mod_at ⟨Nat.le_of_ble_eq_true rfl, Nat.le_of_ble_eq_true rfl⟩ ⟨Nat.le_of_ble_eq_true rfl, Nat.le_of_ble_eq_true rfl⟩ rfl rfl (Nat.le_of_ble_eq_true rfl) ?_
  refine ev_iload_n rfl hC d_Mod_comes_42 ?_
  refine pa_now hC d_Mod_comes_43 (by first | assumption | omega) ?_
  refine ev_aload_n rfl hC d_Mod_comes_44 ?_
  refine gv_Mod_now hC d_Mod_comes_45 fl_Mod_9  ?_
  refine ev_iload rfl hC d_Mod_comes_48 ?_
  refine ev_iconst (v := nI 3) rfl hC d_Mod_comes_50 ?_
  refine cs_1 hC d_Mod_comes_51 (c_Mod_at ) mi_Mod_at ml_Mod_76 sm_Mod_at ⟨Nat.le_of_ble_eq_true rfl, Nat.le_of_ble_eq_true rfl⟩ ⟨Nat.le_of_ble_eq_true rfl, Nat.le_of_ble_eq_true rfl⟩ rfl rfl (Nat.le_of_ble_eq_true rfl) ?_
  refine ev_iload rfl hC d_Mod_comes_54 ?_
  refine pa_now hC d_Mod_comes_56 (by first | assumption | omega) ?_
  refine ev_aload_n rfl hC d_Mod_comes_57 ?_
  refine gv_Mod_now hC d_Mod_comes_58 fl_Mod_9  ?_
  refine ev_iload rfl hC d_Mod_comes_61 ?_
  refine ev_iconst (v := nI 4) rfl hC d_Mod_comes_63 ?_
  refine cs_1 hC d_Mod_comes_64 (c_Mod_at ) mi_Mod_at ml_Mod_76 sm_Mod_at ⟨Nat.le_of_ble_eq_true rfl, Nat.le_of_ble_eq_true rfl⟩ ⟨Nat.le_of_ble_eq_true rfl, Nat.le_of_ble_eq_true rfl⟩ rfl rfl (Nat.le_of_ble_eq_true rfl) ?_
  refine ev_iload rfl hC d_Mod_comes_67 ?_
  refine pa_now hC d_Mod_comes_69 (by first | assumption | omega) ?_
  refine ev_aload_n rfl hC d_Mod_comes_70 ?_
  refine gv_Mod_now hC d_Mod_comes_71 fl_Mod_9  ?_
  refine ev_iload rfl hC d_Mod_comes_74 ?_
  refine ev_iconst (v := nI 5) rfl hC d_Mod_comes_76 ?_
  refine cs_1 hC d_Mod_comes_77 (c_Mod_at ) mi_Mod_at ml_Mod_76 sm_Mod_at ⟨Nat.le_of_ble_eq_true rfl, Nat.le_of_ble_eq_true rfl⟩ ⟨Nat.le_of_ble_eq_true rfl, Nat.le_of_ble_eq_true rfl⟩ rfl rfl (Nat.le_of_ble_eq_true rfl) ?_
  refine ev_iconst (v := 0) rfl hC d_Mod_comes_80 ?_
  refine pa_now hC d_Mod_comes_81 (by first | assumption | omega) ?_
  refine ev_aload_n rfl hC d_Mod_comes_82 ?_
  refine gv_Mod_now hC d_Mod_comes_83 fl_Mod_9  ?_
  refine ev_iload rfl hC d_Mod_comes_86 ?_
  refine ev_bipush (v := nI 6) rfl hC d_Mod_comes_88 ?_
  refine cs_1 hC d_Mod_comes_90 (c_Mod_at ) mi_Mod_at ml_Mod_76 sm_Mod_at ⟨Nat.le_of_ble_eq_true rfl, Nat.le_of_ble_eq_true rfl⟩ ⟨Nat.le_of_ble_eq_true rfl, Nat.le_of_ble_eq_true rfl⟩ rfl rfl (Nat.le_of_ble_eq_true rfl) ?_
  refine ev_iconst (v := 0) rfl hC d_Mod_comes_93 ?_
  refine pa_now hC d_Mod_comes_94 (by first | assumption | omega) ?_
  refine ev_aload_n rfl hC d_Mod_comes_95 ?_
  refine gv_Mod_now hC d_Mod_comes_96 fl_Mod_9  ?_
  refine ev_iconst (v := nI 3) rfl hC d_Mod_comes_99 ?_
  refine ev_dup2 rfl rfl hC d_Mod_comes_100 ?_
  refine ga_now hC d_Mod_comes_101 (by first | assumption | omega) ?_
  refine ev_iconst (v := 1) rfl hC d_Mod_comes_102 ?_
  refine ev_iadd hC d_Mod_comes_103 ?_
  refine pa_now hC d_Mod_comes_104 (by first | assumption | omega) ?_
  refine ev_iload rfl hC d_Mod_comes_105 ?_
  exact ev_iret hC hR d_Mod_comes_107 rfl (rfl) (by simp only [mI, mJ, wr_wr, wr_s]; rw [show upd (upd (upd (upd (upd (upd (upd (M.1 10) (28 + 7 * n + 0) k) (28 + 7 * n + 1) b) (28 + 7 * n + 2) p) (28 + 7 * n + 3) g) (28 + 7 * n + 4) c) (28 + 7 * n + 5) 0) (28 + 7 * n + 6) 0 3 = nI n from (oCom_lo (by omega)).trans hc, nI_1]; rfl)

set_option maxHeartbeats 2000000 in
set_option maxRecDepth 10000 in
theorem c_Mod_event {G : ex_G} {M : ex_M} {np ne : Nat} {h w0 : Int32} (w : WF (M.1 10) np ne) : Con G Y_Mod_event 2 44 0 0 [.ref (ex_b G + 71), .int h, .int w0] (ce G M) (some (.int (R_event M h w0).1)) (ce G ((R_event M h w0).2)) := by
  refine Con.ofF (plainFor_of_name (by decide +kernel)) (Nat.le_of_ble_eq_true rfl) (fun C hC hR => ?_)
  show Ev G C Y_Mod_event 0 [some (.ref (ex_b G + 71)), some (.int h), some (.int w0)] [] 0 0 (ce G M)
  obtain ⟨hc, hn, hc2, hn2, hmet, hkd, hkn⟩ := w
  refine ev_iload_n rfl hC d_Mod_event_0 ?_
  refine ev_iconst (v := 0) rfl hC d_Mod_event_1 ?_
  refine ev_sipush (v := 9999) rfl hC d_Mod_event_2 ?_
  refine cs_1 hC d_Mod_event_5 (c_Mod_within ) mi_Mod_within ml_Mod_68 sm_Mod_within ⟨Nat.le_of_ble_eq_true rfl, Nat.le_of_ble_eq_true rfl⟩ ⟨Nat.le_of_ble_eq_true rfl, Nat.le_of_ble_eq_true rfl⟩ rfl rfl (Nat.le_of_ble_eq_true rfl) ?_
  refine en_eq 18 hC d_Mod_event_8 rfl (fun h_8 => ?_) (fun h_8 => ?_)
  · refine ev_aload_n rfl hC d_Mod_event_18 ?_
    refine ev_ldc kc_Mod_63 hC d_Mod_event_19 ?_
    refine cv_Mod1 hC d_Mod_event_21 (c_Mod_finding (k := 0) (by omega) (by decide +kernel)) mi_Mod_finding ml_Mod_82 im_Mod_finding se_Mod_finding rfl ⟨Nat.le_of_ble_eq_true rfl, Nat.le_of_ble_eq_true rfl⟩ ⟨Nat.le_of_ble_eq_true rfl, Nat.le_of_ble_eq_true rfl⟩ rfl rfl (Nat.le_of_ble_eq_true rfl)  ?_
    exact ev_iret hC hR d_Mod_event_24 rfl (by simp only [R_event, rbad, h_8, if_true, if_false, cond_true, cond_false, decide_true, decide_false, Bool.not_true, Bool.not_false, Bool.or_true, Bool.true_or, Bool.or_false, Bool.false_or, Bool.and_true, Bool.and_false, Bool.true_and, Bool.false_and, Bool.or_self, Bool.and_self, eq_self] <;> first | rfl | (first | (rw [hc2]; done) | (rw [hl, hc2, nI_1]; done) | simp only [h_33])) (by simp only [R_event, rbad, h_8, if_true, if_false, cond_true, cond_false, decide_true, decide_false, Bool.not_true, Bool.not_false, Bool.or_true, Bool.true_or, Bool.or_false, Bool.false_or, Bool.and_true, Bool.and_false, Bool.true_and, Bool.false_and, Bool.or_self, Bool.and_self, eq_self] <;> first | rfl | (first | (rw [hc2]; done) | (rw [hl, hc2, nI_1]; done) | simp only [h_33]))
  · refine ev_iload_n rfl hC d_Mod_event_11 ?_
    refine cs_1 hC d_Mod_event_12 (c_Mod_isWorth ) mi_Mod_isWorth ml_Mod_86 sm_Mod_isWorth ⟨Nat.le_of_ble_eq_true rfl, Nat.le_of_ble_eq_true rfl⟩ ⟨Nat.le_of_ble_eq_true rfl, Nat.le_of_ble_eq_true rfl⟩ rfl rfl (Nat.le_of_ble_eq_true rfl) ?_
    refine en_ne 25 hC d_Mod_event_15 rfl (fun h_15 => ?_) (fun h_15 => ?_)
    · refine ev_aload_n rfl hC d_Mod_event_25 ?_
      refine gv_Mod_now hC d_Mod_event_26 fl_Mod_9  ?_
      refine ev_iconst (v := nI 2) rfl hC d_Mod_event_29 ?_
      refine ga_now hC d_Mod_event_30 (by first | assumption | omega) ?_
      refine ev_bipush (v := 8) rfl hC d_Mod_event_31 ?_
      refine ev_icmp_ne 45 hC d_Mod_event_33 rfl (fun h_33 => ?_) (fun h_33 => ?_)
      · have hl : ix (M.1 10 2) = ne := by rw [hc2]; exact nI_clamp (by omega)
        have hlt : ne < 8 := by
          rcases Nat.lt_or_ge ne 8 with hz | hz
          · exact hz
          · exact absurd (by rw [hc2, show ne = 8 by omega]; rfl) h_33
        refine ev_aload_n rfl hC d_Mod_event_45 ?_
        refine ev_iload_n rfl hC d_Mod_event_46 ?_
        refine ev_iload_n rfl hC d_Mod_event_47 ?_
        refine cv_Mod1 hC d_Mod_event_48 (c_Mod_happens hlt hc2) mi_Mod_happens ml_Mod_91 im_Mod_happens se_Mod_happens rfl ⟨Nat.le_of_ble_eq_true rfl, Nat.le_of_ble_eq_true rfl⟩ ⟨Nat.le_of_ble_eq_true rfl, Nat.le_of_ble_eq_true rfl⟩ rfl rfl (Nat.le_of_ble_eq_true rfl)  ?_
        exact ev_iret hC hR d_Mod_event_51 rfl (by simp only [R_event, rbad, h_8, h_15, h_33, if_true, if_false, cond_true, cond_false, decide_true, decide_false, Bool.not_true, Bool.not_false, Bool.or_true, Bool.true_or, Bool.or_false, Bool.false_or, Bool.and_true, Bool.and_false, Bool.true_and, Bool.false_and, Bool.or_self, Bool.and_self, eq_self] <;> first | rfl | (first | (rw [hc2]; done) | (rw [hl, hc2, nI_1]; done) | simp only [h_33])) (by simp only [R_event, rbad, h_8, h_15, h_33, if_true, if_false, cond_true, cond_false, decide_true, decide_false, Bool.not_true, Bool.not_false, Bool.or_true, Bool.true_or, Bool.or_false, Bool.false_or, Bool.and_true, Bool.and_false, Bool.true_and, Bool.false_and, Bool.or_self, Bool.and_self, eq_self] <;> first | rfl | (first | (rw [hc2]; done) | (rw [hl, hc2, nI_1]; done) | simp only [h_33]))
      · refine ev_aload_n rfl hC d_Mod_event_36 ?_
        refine ev_ldc kc_Mod_90 hC d_Mod_event_37 ?_
        refine cv_Mod1 hC d_Mod_event_39 (c_Mod_finding (k := 1) (by omega) (by decide +kernel)) mi_Mod_finding ml_Mod_82 im_Mod_finding se_Mod_finding rfl ⟨Nat.le_of_ble_eq_true rfl, Nat.le_of_ble_eq_true rfl⟩ ⟨Nat.le_of_ble_eq_true rfl, Nat.le_of_ble_eq_true rfl⟩ rfl rfl (Nat.le_of_ble_eq_true rfl)  ?_
        refine ev_goto 51 hC d_Mod_event_42 rfl ?_
        exact ev_iret hC hR d_Mod_event_51 rfl (by simp only [R_event, rbad, h_8, h_15, h_33, if_true, if_false, cond_true, cond_false, decide_true, decide_false, Bool.not_true, Bool.not_false, Bool.or_true, Bool.true_or, Bool.or_false, Bool.false_or, Bool.and_true, Bool.and_false, Bool.true_and, Bool.false_and, Bool.or_self, Bool.and_self, eq_self] <;> first | rfl | (first | (rw [hc2]; done) | (rw [hl, hc2, nI_1]; done) | simp only [h_33])) (by simp only [R_event, rbad, h_8, h_15, h_33, if_true, if_false, cond_true, cond_false, decide_true, decide_false, Bool.not_true, Bool.not_false, Bool.or_true, Bool.true_or, Bool.or_false, Bool.false_or, Bool.and_true, Bool.and_false, Bool.true_and, Bool.false_and, Bool.or_self, Bool.and_self, eq_self] <;> first | rfl | (first | (rw [hc2]; done) | (rw [hl, hc2, nI_1]; done) | simp only [h_33]))
    · refine ev_aload_n rfl hC d_Mod_event_18 ?_
      refine ev_ldc kc_Mod_63 hC d_Mod_event_19 ?_
      refine cv_Mod1 hC d_Mod_event_21 (c_Mod_finding (k := 0) (by omega) (by decide +kernel)) mi_Mod_finding ml_Mod_82 im_Mod_finding se_Mod_finding rfl ⟨Nat.le_of_ble_eq_true rfl, Nat.le_of_ble_eq_true rfl⟩ ⟨Nat.le_of_ble_eq_true rfl, Nat.le_of_ble_eq_true rfl⟩ rfl rfl (Nat.le_of_ble_eq_true rfl)  ?_
      exact ev_iret hC hR d_Mod_event_24 rfl (by simp only [R_event, rbad, h_8, h_15, if_true, if_false, cond_true, cond_false, decide_true, decide_false, Bool.not_true, Bool.not_false, Bool.or_true, Bool.true_or, Bool.or_false, Bool.false_or, Bool.and_true, Bool.and_false, Bool.true_and, Bool.false_and, Bool.or_self, Bool.and_self, eq_self] <;> first | rfl | (first | (rw [hc2]; done) | (rw [hl, hc2, nI_1]; done) | simp only [h_33])) (by simp only [R_event, rbad, h_8, h_15, if_true, if_false, cond_true, cond_false, decide_true, decide_false, Bool.not_true, Bool.not_false, Bool.or_true, Bool.true_or, Bool.or_false, Bool.false_or, Bool.and_true, Bool.and_false, Bool.true_and, Bool.false_and, Bool.or_self, Bool.and_self, eq_self] <;> first | rfl | (first | (rw [hc2]; done) | (rw [hl, hc2, nI_1]; done) | simp only [h_33]))

set_option maxHeartbeats 2000000 in
set_option maxRecDepth 10000 in
theorem c_Mod_one {G : ex_G} {M : ex_M} {np ne : Nat} {k b : Int32} (w : WF (M.1 10) np ne) : Con G Y_Mod_one 2 47 0 0 [.ref (ex_b G + 71), .int k, .int b] (ce G M) (some (.int (R_one M k b).1)) (ce G ((R_one M k b).2)) := by
  refine Con.ofF (plainFor_of_name (by decide +kernel)) (Nat.le_of_ble_eq_true rfl) (fun C hC hR => ?_)
  show Ev G C Y_Mod_one 0 [some (.ref (ex_b G + 71)), some (.int k), some (.int b)] [] 0 0 (ce G M)
  obtain ⟨hc, hn, hc2, hn2, hmet, hkd, hkn⟩ := w
  refine ev_iload_n rfl hC d_Mod_one_0 ?_
  refine cs_1 hC d_Mod_one_1 (c_Mod_isKind ) mi_Mod_isKind ml_Mod_115 sm_Mod_isKind ⟨Nat.le_of_ble_eq_true rfl, Nat.le_of_ble_eq_true rfl⟩ ⟨Nat.le_of_ble_eq_true rfl, Nat.le_of_ble_eq_true rfl⟩ rfl rfl (Nat.le_of_ble_eq_true rfl) ?_
  refine en_eq 16 hC d_Mod_one_4 rfl (fun h_4 => ?_) (fun h_4 => ?_)
  · refine ev_aload_n rfl hC d_Mod_one_16 ?_
    refine ev_ldc kc_Mod_63 hC d_Mod_one_17 ?_
    refine cv_Mod1 hC d_Mod_one_19 (c_Mod_finding (k := 0) (by omega) (by decide +kernel)) mi_Mod_finding ml_Mod_82 im_Mod_finding se_Mod_finding rfl ⟨Nat.le_of_ble_eq_true rfl, Nat.le_of_ble_eq_true rfl⟩ ⟨Nat.le_of_ble_eq_true rfl, Nat.le_of_ble_eq_true rfl⟩ rfl rfl (Nat.le_of_ble_eq_true rfl)  ?_
    exact ev_iret hC hR d_Mod_one_22 rfl (by simp only [R_one, rbad, h_4, if_true, if_false, cond_true, cond_false, decide_true, decide_false, Bool.not_true, Bool.not_false, Bool.or_true, Bool.true_or, Bool.or_false, Bool.false_or, Bool.and_true, Bool.and_false, Bool.true_and, Bool.false_and, Bool.or_self, Bool.and_self, eq_self] <;> first | rfl | (first | (rw [hc]; done) | (rw [hl, hc, nI_1]))) (by simp only [R_one, rbad, h_4, if_true, if_false, cond_true, cond_false, decide_true, decide_false, Bool.not_true, Bool.not_false, Bool.or_true, Bool.true_or, Bool.or_false, Bool.false_or, Bool.and_true, Bool.and_false, Bool.true_and, Bool.false_and, Bool.or_self, Bool.and_self, eq_self] <;> first | rfl | (first | (rw [hc]; done) | (rw [hl, hc, nI_1])))
  · refine ev_iload_n rfl hC d_Mod_one_7 ?_
    refine ev_iconst (v := 0) rfl hC d_Mod_one_8 ?_
    refine ev_iconst (v := 1) rfl hC d_Mod_one_9 ?_
    refine cs_1 hC d_Mod_one_10 (c_Mod_within ) mi_Mod_within ml_Mod_68 sm_Mod_within ⟨Nat.le_of_ble_eq_true rfl, Nat.le_of_ble_eq_true rfl⟩ ⟨Nat.le_of_ble_eq_true rfl, Nat.le_of_ble_eq_true rfl⟩ rfl rfl (Nat.le_of_ble_eq_true rfl) ?_
    refine en_ne 23 hC d_Mod_one_13 rfl (fun h_13 => ?_) (fun h_13 => ?_)
    · refine ev_aload_n rfl hC d_Mod_one_23 ?_
      refine gv_Mod_now hC d_Mod_one_24 fl_Mod_9  ?_
      refine ev_iconst (v := nI 3) rfl hC d_Mod_one_27 ?_
      refine ga_now hC d_Mod_one_28 (by first | assumption | omega) ?_
      refine ev_bipush (v := 8) rfl hC d_Mod_one_29 ?_
      refine ev_icmp_ne 43 hC d_Mod_one_31 rfl (fun h_31 => ?_) (fun h_31 => ?_)
      · have hl : ix (M.1 10 3) = np := by rw [hc]; exact nI_clamp (by omega)
        have hlt : np < 8 := by
          rcases Nat.lt_or_ge np 8 with hz | hz
          · exact hz
          · exact absurd (by rw [hc, show np = 8 by omega]; rfl) h_31
        refine ev_aload_n rfl hC d_Mod_one_43 ?_
        refine ev_iload_n rfl hC d_Mod_one_44 ?_
        refine ev_iload_n rfl hC d_Mod_one_45 ?_
        refine ev_bipush (v := 50) rfl hC d_Mod_one_46 ?_
        refine ev_iconst (v := -1) rfl hC d_Mod_one_48 ?_
        refine ev_iconst (v := -1) rfl hC d_Mod_one_49 ?_
        refine cv_Mod1 hC d_Mod_one_50 (c_Mod_comes hlt hc) mi_Mod_comes ml_Mod_118 im_Mod_comes se_Mod_comes rfl ⟨Nat.le_of_ble_eq_true rfl, Nat.le_of_ble_eq_true rfl⟩ ⟨Nat.le_of_ble_eq_true rfl, Nat.le_of_ble_eq_true rfl⟩ rfl rfl (Nat.le_of_ble_eq_true rfl)  ?_
        exact ev_iret hC hR d_Mod_one_53 rfl (by simp only [R_one, rbad, h_4, h_13, h_31, if_true, if_false, cond_true, cond_false, decide_true, decide_false, Bool.not_true, Bool.not_false, Bool.or_true, Bool.true_or, Bool.or_false, Bool.false_or, Bool.and_true, Bool.and_false, Bool.true_and, Bool.false_and, Bool.or_self, Bool.and_self, eq_self] <;> first | rfl | (first | (rw [hc]; done) | (rw [hl, hc, nI_1]))) (by simp only [R_one, rbad, h_4, h_13, h_31, if_true, if_false, cond_true, cond_false, decide_true, decide_false, Bool.not_true, Bool.not_false, Bool.or_true, Bool.true_or, Bool.or_false, Bool.false_or, Bool.and_true, Bool.and_false, Bool.true_and, Bool.false_and, Bool.or_self, Bool.and_self, eq_self] <;> first | rfl | (first | (rw [hc]; done) | (rw [hl, hc, nI_1])))
      · refine ev_aload_n rfl hC d_Mod_one_34 ?_
        refine ev_ldc kc_Mod_90 hC d_Mod_one_35 ?_
        refine cv_Mod1 hC d_Mod_one_37 (c_Mod_finding (k := 1) (by omega) (by decide +kernel)) mi_Mod_finding ml_Mod_82 im_Mod_finding se_Mod_finding rfl ⟨Nat.le_of_ble_eq_true rfl, Nat.le_of_ble_eq_true rfl⟩ ⟨Nat.le_of_ble_eq_true rfl, Nat.le_of_ble_eq_true rfl⟩ rfl rfl (Nat.le_of_ble_eq_true rfl)  ?_
        refine ev_goto 53 hC d_Mod_one_40 rfl ?_
        exact ev_iret hC hR d_Mod_one_53 rfl (by simp only [R_one, rbad, h_4, h_13, h_31, if_true, if_false, cond_true, cond_false, decide_true, decide_false, Bool.not_true, Bool.not_false, Bool.or_true, Bool.true_or, Bool.or_false, Bool.false_or, Bool.and_true, Bool.and_false, Bool.true_and, Bool.false_and, Bool.or_self, Bool.and_self, eq_self] <;> first | rfl | (first | (rw [hc]; done) | (rw [hl, hc, nI_1]))) (by simp only [R_one, rbad, h_4, h_13, h_31, if_true, if_false, cond_true, cond_false, decide_true, decide_false, Bool.not_true, Bool.not_false, Bool.or_true, Bool.true_or, Bool.or_false, Bool.false_or, Bool.and_true, Bool.and_false, Bool.true_and, Bool.false_and, Bool.or_self, Bool.and_self, eq_self] <;> first | rfl | (first | (rw [hc]; done) | (rw [hl, hc, nI_1])))
    · refine ev_aload_n rfl hC d_Mod_one_16 ?_
      refine ev_ldc kc_Mod_63 hC d_Mod_one_17 ?_
      refine cv_Mod1 hC d_Mod_one_19 (c_Mod_finding (k := 0) (by omega) (by decide +kernel)) mi_Mod_finding ml_Mod_82 im_Mod_finding se_Mod_finding rfl ⟨Nat.le_of_ble_eq_true rfl, Nat.le_of_ble_eq_true rfl⟩ ⟨Nat.le_of_ble_eq_true rfl, Nat.le_of_ble_eq_true rfl⟩ rfl rfl (Nat.le_of_ble_eq_true rfl)  ?_
      exact ev_iret hC hR d_Mod_one_22 rfl (by simp only [R_one, rbad, h_4, h_13, if_true, if_false, cond_true, cond_false, decide_true, decide_false, Bool.not_true, Bool.not_false, Bool.or_true, Bool.true_or, Bool.or_false, Bool.false_or, Bool.and_true, Bool.and_false, Bool.true_and, Bool.false_and, Bool.or_self, Bool.and_self, eq_self] <;> first | rfl | (first | (rw [hc]; done) | (rw [hl, hc, nI_1]))) (by simp only [R_one, rbad, h_4, h_13, if_true, if_false, cond_true, cond_false, decide_true, decide_false, Bool.not_true, Bool.not_false, Bool.or_true, Bool.true_or, Bool.or_false, Bool.false_or, Bool.and_true, Bool.and_false, Bool.true_and, Bool.false_and, Bool.or_self, Bool.and_self, eq_self] <;> first | rfl | (first | (rw [hc]; done) | (rw [hl, hc, nI_1])))
