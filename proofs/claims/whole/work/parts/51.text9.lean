/-! the reference's text -/
def bA (M : ex_M) (l p : Nat) : Int32 := if l ≤ p then -1 else M.1 15 p
theorem mn4_eq (x : Int32) : (if x < 10000 then x else 10000) = mn4 x := by
  unfold mn4
  by_cases h : x < 10000
  · rw [if_pos h, if_neg (fun z => by rw [Int32.lt_iff_toInt_lt] at h z; omega)]
  · rw [if_neg h]
    by_cases h2 : 10000 < x
    · rw [if_pos h2]
    · rw [if_neg h2]
      apply Int32.toInt_inj.mp
      rw [Int32.lt_iff_toInt_lt] at h h2
      omega

set_option maxHeartbeats 2000000 in
set_option maxRecDepth 10000 in
theorem c_Mod_byteAt {G : ex_G} {M : ex_M} {l p : Nat} (hl : l ≤ 120) (e : M.1 14 3 = nI l) (hp : p ≤ l) : Con G Y_Mod_byteAt 0 0 0 0 [.ref (ex_b G + 71), .int (nI p)] (ce G M) (some (.int (bA M l p))) (ce G (M)) := by
  refine Con.ofF (plainFor_of_name (by decide +kernel)) (Nat.le_of_ble_eq_true rfl) (fun C hC hR => ?_)
  show Ev G C Y_Mod_byteAt 0 [some (.ref (ex_b G + 71)), some (.int (nI p))] [] 0 0 (ce G M)
  refine ev_iload_n rfl hC d_Mod_byteAt_0 ?_
  refine ev_aload_n rfl hC d_Mod_byteAt_1 ?_
  refine gv_Mod_taped hC d_Mod_byteAt_2 fl_Mod_222  ?_
  refine ev_icmp_ge 17 hC d_Mod_byteAt_5 rfl (fun h_5 => ?_) (fun h_5 => ?_)
  · have hlp : l ≤ p := by
      rcases Nat.lt_or_ge p l with z | z
      · exact absurd h_5 (by rw [e]; exact nI_ge z (by omega))
      · exact z
    refine ev_iconst (v := -1) rfl hC d_Mod_byteAt_17 ?_
    exact ev_iret hC hR d_Mod_byteAt_18 rfl (by rw [bA, if_pos hlp]) (rfl)
  · have hlp : ¬ l ≤ p := fun z => h_5 (by rw [e]; exact nI_le z (by omega))
    refine ev_aload_n rfl hC d_Mod_byteAt_8 ?_
    refine gv_Mod_tape hC d_Mod_byteAt_9 fl_Mod_26  ?_
    refine ev_iload_n rfl hC d_Mod_byteAt_12 ?_
    refine ga_tape hC d_Mod_byteAt_13 (by first | assumption | omega) ?_
    refine ev_goto 18 hC d_Mod_byteAt_14 rfl ?_
    exact ev_iret hC hR d_Mod_byteAt_18 rfl (by rw [bA, if_neg hlp]) (rfl)
