/-! EACH CALL: both sides answer alike -/
def Bth (G : ex_G) (Yd Ym : ex_Y) (Fd Xd Fm Xm : Nat) (as : List Value) (M : ex_M) : Prop := ∃ (v : Int32) (M1 M2 : ex_M), Con G Yd Fd Xd 0 0 (.ref (ex_b G + 0) :: as) (ce G M) (some (.int v)) (ce G M1) ∧ Con G Ym Fm Xm 0 0 (.ref (ex_b G + 71) :: as) (ce G M1) (some (.int v)) (ce G M2) ∧ Rel M2
def BthL (G : ex_G) (Yd Ym : ex_Y) (Fd Xd Fm Xm : Nat) (as : List Value) (M : ex_M) : Prop := ∃ (v : Int64) (M1 M2 : ex_M), Con G Yd Fd Xd 0 0 (.ref (ex_b G + 0) :: as) (ce G M) (some (.long v)) (ce G M1) ∧ Con G Ym Fm Xm 0 0 (.ref (ex_b G + 71) :: as) (ce G M1) (some (.long v)) (ce G M2) ∧ Rel M2
theorem Bth.mk {G : ex_G} {Yd Ym : ex_Y} {Fd Xd Fm Xm : Nat} {as : List Value} {M : ex_M} {d : Int32 × ex_M} {r : ex_M → Int32 × ex_M} (c1 : Con G Yd Fd Xd 0 0 (.ref (ex_b G + 0) :: as) (ce G M) (some (.int d.1)) (ce G d.2)) (c2 : Con G Ym Fm Xm 0 0 (.ref (ex_b G + 71) :: as) (ce G d.2) (some (.int (r d.2).1)) (ce G (r d.2).2)) (e : Eq2 d r) : Bth G Yd Ym Fd Xd Fm Xm as M :=
  ⟨d.1, d.2, (r d.2).2, c1, Con.to c2 (by rw [e.1]) rfl, e.2⟩
theorem BthL.mk {G : ex_G} {Yd Ym : ex_Y} {Fd Xd Fm Xm : Nat} {as : List Value} {M : ex_M} {d : Int64 × ex_M} {r : ex_M → Int64 × ex_M} (c1 : Con G Yd Fd Xd 0 0 (.ref (ex_b G + 0) :: as) (ce G M) (some (.long d.1)) (ce G d.2)) (c2 : Con G Ym Fm Xm 0 0 (.ref (ex_b G + 71) :: as) (ce G d.2) (some (.long (r d.2).1)) (ce G (r d.2).2)) (e : Eq2 d r) : BthL G Yd Ym Fd Xd Fm Xm as M :=
  ⟨d.1, d.2, (r d.2).2, c1, Con.to c2 (by rw [e.1]) rfl, e.2⟩
section Keep
variable {α : Type} {M : ex_M} {q : Nat} {x y : α × ex_M}
theorem cdq {b : Bool} (hx : x.2.1 q = M.1 q) (hy : y.2.1 q = M.1 q) : (bif b then x else y).2.1 q = M.1 q := by cases b; exact hy; exact hx
theorem ifq {P : Prop} [Decidable P] (hx : x.2.1 q = M.1 q) (hy : y.2.1 q = M.1 q) : (if P then x else y).2.1 q = M.1 q := by split; exact hx; exact hy
end Keep
theorem finS_q {M : ex_M} {z : Option Nat × (Nat → Int32)} : (finS M z).2.1 10 = M.1 10 := by unfold finS; cases z.1 <;> rfl
theorem finF_q {M : ex_M} {np : Nat} {e : Int32} {z : Option Nat × (Nat → Int32)} : (finF M np e z).2.1 10 = M.1 10 := by unfold finF; cases z.1 <;> rfl
theorem orN_q {M : ex_M} {z : (Nat → Int32) × (Nat → Int32)} {v : Int32} : (orN (fin3 M z) v).2.1 10 = M.1 10 := by unfold orN; exact ifq rfl rfl
theorem badv_q {M : ex_M} {v : Int32} : (badv M v).2.1 10 = M.1 10 := by unfold badv; exact ifq rfl rfl
theorem badv_q18 {M : ex_M} {v : Int32} : (badv M v).2.1 18 = M.1 18 := by unfold badv; exact ifq rfl rfl
theorem sh_l {M : ex_M} (h : RH M) (x : Int32) : ∃ l, l ≤ 40 ∧ ∀ s, s < 4 → x = nI s → l ≤ 40 ∧ M.1 6 (2 * s + 1) = nI l ∧ M.1 18 s = nI l := by
  by_cases hx : ∃ s, s < 4 ∧ x = nI s
  · obtain ⟨s, hs, e⟩ := hx
    obtain ⟨a1, a2, ⟨l, hl, el⟩, -⟩ := h s hs
    refine ⟨l, hl, fun t ht et => ?_⟩
    have q : s = t := (nI_eq (by omega) (by omega)).mp (e.symm.trans et)
    subst q
    exact ⟨hl, el, a2.trans el⟩
  · exact ⟨0, by omega, fun s hs e => absurd ⟨s, hs, e⟩ hx⟩

theorem L_toll {G : ex_G} {M : ex_M} {v : Int32} (h : Rel M) : Bth G Y_Day_toll Y_Mod_toll 1 22 1 23 [.int v] M := by
  obtain ⟨⟨np, ne, r⟩, -⟩ := id h
  exact Bth.mk (d := D_toll M v) (r := fun N => R_toll N v) c_Day_toll c_Mod_toll (E_toll h r)
theorem L_event {G : ex_G} {M : ex_M} {x w : Int32} (h : Rel M) : Bth G Y_Day_event Y_Mod_event 2 44 2 44 [.int x, .int w] M := by
  obtain ⟨⟨np, ne, r⟩, -⟩ := id h
  have f : (D_event M x w).2.1 10 = M.1 10 := by unfold D_event; exact cdq rfl (cdq rfl rfl)
  exact Bth.mk (d := D_event M x w) (r := fun N => R_event N x w) (c_Day_event r.1.1.1) (c_Mod_event (by rw [f]; exact RA_WF r)) (E_event h r)
theorem L_eventOf {G : ex_G} {M : ex_M} {e w : Int32} (h : Rel M) : Bth G Y_Day_eventOf Y_Mod_eventOf 2 44 3 66 [.int e, .int w] M := by
  obtain ⟨⟨np, ne, r⟩, -⟩ := id h
  have f : (D_eventOf M np e w).2.1 10 = M.1 10 := by unfold D_eventOf; exact cdq rfl (ifq rfl (ifq rfl (ifq rfl (ifq rfl (ifq rfl (ifq rfl (rfl)))))))
  exact Bth.mk (d := D_eventOf M np e w) (r := fun N => R_eventOf N np e w) (c_Day_eventOf r.1.1.1) (c_Mod_eventOf (by rw [f]; exact RA_WF r)) (E_eventOf h r)
theorem L_worth {G : ex_G} {M : ex_M} {e v : Int32} (h : Rel M) : Bth G Y_Day_worth Y_Mod_worth 2 43 2 43 [.int e, .int v] M := by
  obtain ⟨⟨np, ne, r⟩, -⟩ := id h
  have f : (D_worth M e v).2.1 10 = M.1 10 := by unfold D_worth; exact cdq rfl rfl
  exact Bth.mk (d := D_worth M e v) (r := fun N => R_worth N e v) (c_Day_worth r.1.1.1) (c_Mod_worth (by rw [f]; exact RA_WF r)) (E_worth h r)
theorem L_one {G : ex_G} {M : ex_M} {x w : Int32} (h : Rel M) : Bth G Y_Day_one Y_Mod_one 2 44 2 47 [.int x, .int w] M := by
  obtain ⟨⟨np, ne, r⟩, -⟩ := id h
  have f : (D_one M x w).2.1 10 = M.1 10 := by unfold D_one; exact cdq rfl (cdq rfl rfl)
  exact Bth.mk (d := D_one M x w) (r := fun N => R_one N x w) (c_Day_one r.1.1.1) (c_Mod_one (by rw [f]; exact RA_WF r)) (E_one h r)
theorem L_of {G : ex_G} {M : ex_M} {p w : Int32} (h : Rel M) : Bth G Y_Day_of Y_Mod_of 2 43 2 43 [.int p, .int w] M := by
  obtain ⟨⟨np, ne, r⟩, -⟩ := id h
  have f : (D_of M p w).2.1 10 = M.1 10 := by unfold D_of; exact cdq rfl (cdq rfl rfl)
  exact Bth.mk (d := D_of M p w) (r := fun N => R_of N p w) (c_Day_of r.1.1.1) (c_Mod_of (by rw [f]; exact RA_WF r)) (E_of h r)
theorem L_set {G : ex_G} {M : ex_M} {p w v : Int32} (h : Rel M) : Bth G Y_Day_set Y_Mod_set 2 44 2 44 [.int p, .int w, .int v] M := by
  obtain ⟨⟨np, ne, r⟩, -⟩ := id h
  have f : (D_set M p w v).2.1 10 = M.1 10 := by unfold D_set; exact cdq rfl (cdq rfl rfl)
  exact Bth.mk (d := D_set M p w v) (r := fun N => R_set N p w v) (c_Day_set r.1.1.1) (c_Mod_set (by rw [f]; exact RA_WF r)) (E_set h r)
theorem L_turn {G : ex_G} {M : ex_M} {p k : Int32} (h : Rel M) : Bth G Y_Day_turn Y_Mod_turn 2 43 2 43 [.int p, .int k] M := by
  obtain ⟨⟨np, ne, r⟩, -⟩ := id h
  have f : (D_turn M p k).2.1 10 = M.1 10 := by unfold D_turn; exact cdq rfl rfl
  exact Bth.mk (d := D_turn M p k) (r := fun N => R_turn N p k) (c_Day_turn r.1.1.1) (c_Mod_turn (by rw [f]; exact RA_WF r)) (E_turn h r)
theorem L_as {G : ex_G} {M : ex_M} {p k : Int32} (h : Rel M) : Bth G Y_Day_as Y_Mod_as 2 43 2 43 [.int p, .int k] M := by
  obtain ⟨⟨np, ne, r⟩, -⟩ := id h
  have f : (D_as M p k).2.1 10 = M.1 10 := by unfold D_as; exact cdq rfl (cdq rfl rfl)
  exact Bth.mk (d := D_as M p k) (r := fun N => R_as N p k) (c_Day_as r.1.1.1) (c_Mod_as (by rw [f]; exact RA_WF r)) (E_as h r)
theorem L_gains {G : ex_G} {M : ex_M} {p w k : Int32} (h : Rel M) : Bth G Y_Day_gains Y_Mod_gains 2 43 2 45 [.int p, .int w, .int k] M := by
  obtain ⟨⟨np, ne, r⟩, -⟩ := id h
  have f : (D_gains M p w k).2.1 10 = M.1 10 := by unfold D_gains; exact cdq rfl rfl
  exact Bth.mk (d := D_gains M p w k) (r := fun N => R_gains N p w k) (c_Day_gains r.1.1.1) (c_Mod_gains (by rw [f]; exact RA_WF r)) (E_gains h r)
theorem L_cross {G : ex_G} {M : ex_M} {p : Int32} (h : Rel M) : Bth G Y_Day_cross Y_Mod_cross 2 43 4 86 [.int p] M := by
  obtain ⟨⟨np, ne, r⟩, -⟩ := id h
  have f : (D_cross M p).2.1 10 = M.1 10 := by unfold D_cross; exact cdq rfl (cdq rfl rfl)
  exact Bth.mk (d := D_cross M p) (r := fun N => R_cross N p) (c_Day_cross r.1.1.1) (c_Mod_cross (by rw [f]; exact RA_WF r)) (E_cross h r)
theorem L_tells {G : ex_G} {M : ex_M} {p q : Int32} (h : Rel M) : Bth G Y_Day_tells Y_Mod_tells 2 43 3 66 [.int p, .int q] M := by
  obtain ⟨⟨np, ne, r⟩, -⟩ := id h
  have f : (D_tells M p q).2.1 10 = M.1 10 := by unfold D_tells; exact cdq rfl (ifq rfl rfl)
  exact Bth.mk (d := D_tells M p q) (r := fun N => R_tells N p q) (c_Day_tells r.1.1.1) (c_Mod_tells (by rw [f]; exact RA_WF r)) (E_tells h r)
theorem L_hours {G : ex_G} {M : ex_M} {n : Int32} (h : Rel M) : Bth G Y_Day_hours Y_Mod_hours 5 115 6 134 [.int n] M := by
  obtain ⟨⟨np, ne, r⟩, -⟩ := id h
  have f : (D_hours M np ne n).2.1 10 = M.1 10 := by unfold D_hours; exact cdq rfl (ifq rfl rfl)
  exact Bth.mk (d := D_hours M np ne n) (r := fun N => R_hours N np ne n) (c_Day_hours r.1.1.1) (c_Mod_hours (by rw [f]; exact RA_WF r)) (E_hours h r)
theorem L_now {G : ex_G} {M : ex_M} {w : Int32} (h : Rel M) : Bth G Y_Day_now Y_Mod_now 1 22 3 66 [.int w] M := by
  obtain ⟨⟨np, ne, r⟩, -⟩ := id h
  have f : (D_now M np ne w).2.1 10 = M.1 10 := by unfold D_now; exact ifq rfl (ifq rfl (ifq rfl (ifq rfl (ifq rfl (ifq rfl (rfl))))))
  exact Bth.mk (d := D_now M np ne w) (r := fun N => R_now N np ne w) (c_Day_now r.1.1.1) (c_Mod_now (by rw [f]; exact RA_WF r)) (E_now h r)
theorem L_on {G : ex_G} {M : ex_M} {p n w : Int32} (h : Rel M) : Bth G Y_Day_on Y_Mod_on 5 115 7 157 [.int p, .int n, .int w] M := by
  obtain ⟨⟨np, ne, r⟩, -⟩ := id h
  have f : (D_on M np ne p n w).2.1 10 = M.1 10 := by unfold D_on; exact cdq rfl rfl
  exact Bth.mk (d := D_on M np ne p n w) (r := fun N => R_on N np ne p n w) (c_Day_on r.1.1.1) (c_Mod_on (by rw [f]; exact RA_WF r)) (E_on h r)
theorem L_learns {G : ex_G} {M : ex_M} {p e : Int32} (h : Rel M) : Bth G Y_Day_learns Y_Mod_learns 4 93 6 135 [.int p, .int e] M := by
  obtain ⟨⟨np, ne, r⟩, -⟩ := id h
  have f : (D_learns M np ne p e).2.1 10 = M.1 10 := by unfold D_learns; exact cdq rfl finS_q
  exact Bth.mk (d := D_learns M np ne p e) (r := fun N => R_learns N np ne p e) (c_Day_learns r.1.1.1) (c_Mod_learns (by rw [f]; exact RA_WF r)) (E_learns h r)
theorem L_first {G : ex_G} {M : ex_M} {e : Int32} (h : Rel M) : Bth G Y_Day_first Y_Mod_first 4 93 5 112 [.int e] M := by
  obtain ⟨⟨np, ne, r⟩, -⟩ := id h
  have f : (D_first M np ne e).2.1 10 = M.1 10 := by unfold D_first; exact cdq rfl finF_q
  exact Bth.mk (d := D_first M np ne e) (r := fun N => R_first N np ne e) (c_Day_first r.1.1.1) (c_Mod_first (by rw [f]; exact RA_WF r)) (E_first h r)
theorem L_met {G : ex_G} {M : ex_M} {n : Int32} (h : Rel M) : Bth G Y_Day_met Y_Mod_met 5 115 7 155 [.int n] M := by
  obtain ⟨⟨np, ne, r⟩, -⟩ := id h
  have f : (D_met M np ne n).2.1 10 = M.1 10 := by unfold D_met; exact cdq rfl rfl
  exact Bth.mk (d := D_met M np ne n) (r := fun N => R_met N np ne n) (c_Day_met r.1.1.1) (c_Mod_met (by rw [f]; exact RA_WF r)) (E_met h r)
theorem L_broke {G : ex_G} {M : ex_M} {p : Int32} (h : Rel M) : Bth G Y_Day_broke Y_Mod_broke 4 93 5 112 [.int p] M := by
  obtain ⟨⟨np, ne, r⟩, -⟩ := id h
  have f : (D_broke M np ne p).2.1 10 = M.1 10 := by unfold D_broke; exact cdq rfl finS_q
  exact Bth.mk (d := D_broke M np ne p) (r := fun N => R_broke N np ne p) (c_Day_broke r.1.1.1) (c_Mod_broke (by rw [f]; exact RA_WF r)) (E_broke h r)
theorem L_clocks {G : ex_G} {M : ex_M} {p n : Int32} (h : Rel M) : Bth G Y_Day_clocks Y_Mod_clocks 6 139 9 206 [.int p, .int n] M := by
  obtain ⟨⟨np, ne, r⟩, -⟩ := id h
  have f : (D_clocks M np ne p n).2.1 10 = M.1 10 := by unfold D_clocks; exact cdq rfl rfl
  exact Bth.mk (d := D_clocks M np ne p n) (r := fun N => R_clocks N np ne p n) (c_Day_clocks r.1.1.1) (c_Mod_clocks (by rw [f]; exact RA_WF r)) (E_clocks h r)
theorem L_rich {G : ex_G} {M : ex_M} {p n : Int32} (h : Rel M) : Bth G Y_Day_rich Y_Mod_rich 6 139 9 206 [.int p, .int n] M := by
  obtain ⟨⟨np, ne, r⟩, -⟩ := id h
  have f : (D_rich M np ne p n).2.1 10 = M.1 10 := by unfold D_rich; exact cdq rfl rfl
  exact Bth.mk (d := D_rich M np ne p n) (r := fun N => R_rich N np ne p n) (c_Day_rich r.1.1.1) (c_Mod_rich (by rw [f]; exact RA_WF r)) (E_rich h r)
theorem L_bears {G : ex_G} {M : ex_M} {v n : Int32} (h : Rel M) : Bth G Y_Day_bears Y_Mod_bears 5 115 7 155 [.int v, .int n] M := by
  obtain ⟨⟨np, ne, r⟩, -⟩ := id h
  have f : (D_bears M np ne v n).2.1 10 = M.1 10 := by unfold D_bears; exact cdq rfl finS_q
  exact Bth.mk (d := D_bears M np ne v n) (r := fun N => R_bears N np ne v n) (c_Day_bears r.1.1.1) (c_Mod_bears (by rw [f]; exact RA_WF r)) (E_bears h r)
theorem L_bank {G : ex_G} {M : ex_M} {p n : Int32} (h : Rel M) : Bth G Y_Day_bank Y_Mod_bank 6 137 9 208 [.int p, .int n] M := by
  obtain ⟨⟨np, ne, r⟩, -⟩ := id h
  have f : (D_bank M np ne p n).2.1 10 = M.1 10 := by unfold D_bank; exact cdq rfl rfl
  exact Bth.mk (d := D_bank M np ne p n) (r := fun N => R_bank N np ne p n) (c_Day_bank r.1.1.1) (c_Mod_bank (by rw [f]; exact RA_WF r)) (E_bank h r)
theorem L_kind {G : ex_G} {M : ex_M} {p n : Int32} (h : Rel M) : Bth G Y_Day_kind Y_Mod_kind 6 137 9 208 [.int p, .int n] M := by
  obtain ⟨⟨np, ne, r⟩, -⟩ := id h
  have f : (D_kind M np ne p n).2.1 10 = M.1 10 := by unfold D_kind; exact cdq rfl rfl
  exact Bth.mk (d := D_kind M np ne p n) (r := fun N => R_kind N np ne p n) (c_Day_kind r.1.1.1) (c_Mod_kind (by rw [f]; exact RA_WF r)) (E_kind h r)
theorem L_news {G : ex_G} {M : ex_M} {p n : Int32} (h : Rel M) : Bth G Y_Day_news Y_Mod_news 6 137 8 179 [.int p, .int n] M := by
  obtain ⟨⟨np, ne, r⟩, -⟩ := id h
  have f : (D_news M np ne p n).2.1 10 = M.1 10 := by unfold D_news; exact cdq rfl orN_q
  exact Bth.mk (d := D_news M np ne p n) (r := fun N => R_news N np ne p n) (c_Day_news r.1.1.1) (c_Mod_news (by rw [f]; exact RA_WF r)) (E_news h r)
theorem L_needed {G : ex_G} {M : ex_M} {n : Int32} (h : Rel M) : Bth G Y_Day_needed Y_Mod_needed 6 136 7 155 [.int n] M := by
  obtain ⟨⟨np, ne, r⟩, -⟩ := id h
  have f : (D_needed M np ne n).2.1 10 = M.1 10 := by unfold D_needed; exact cdq rfl orN_q
  exact Bth.mk (d := D_needed M np ne n) (r := fun N => R_needed N np ne n) (c_Day_needed r.1.1.1) (c_Mod_needed (by rw [f]; exact RA_WF r)) (E_needed h r)
theorem L_sum {G : ex_G} {M : ex_M} {e n : Int32} (h : Rel M) : Bth G Y_Day_sum Y_Mod_sum 5 115 7 155 [.int e, .int n] M := by
  obtain ⟨⟨np, ne, r⟩, -⟩ := id h
  have f : (D_sum M np ne e n).2.1 10 = M.1 10 := by unfold D_sum; exact cdq rfl rfl
  exact Bth.mk (d := D_sum M np ne e n) (r := fun N => R_sum N np ne e n) (c_Day_sum r.1.1.1) (c_Mod_sum (by rw [f]; exact RA_WF r)) (E_sum h r)
theorem L_feed {G : ex_G} {M : ex_M} {b n : Int32} (h : Rel M) : Bth G Y_Day_feed Y_Mod_feed 1 22 1 22 [.int b, .int n] M := by
  obtain ⟨l, hl, t1, t2, -⟩ := id h.2.2.2.2.1
  have f : (D_feed M b n).2.1 14 = M.1 14 := by
    unfold D_feed
    exact cdq rfl (ifq (fdL_q (by decide) (by decide) _ _ _) rfl)
  exact Bth.mk (d := D_feed M b n) (r := fun N => R_feed N b n) (c_Day_feed hl t1) (c_Mod_feed hl (by rw [f]; exact t2)) (E_feed h)
theorem L_wipe {G : ex_G} {M : ex_M} (h : Rel M) : Bth G Y_Day_wipe Y_Mod_wipe 0 0 0 0 [] M := Bth.mk (d := D_wipe M) (r := fun N => R_wipe N) c_Day_wipe c_Mod_wipe (E_wipe h)
theorem L_river {G : ex_G} {M : ex_M} (h : Rel M) : Bth G Y_Day_river Y_Mod_river 9 196 7 154 [] M := by
  obtain ⟨⟨np, ne, r⟩, -⟩ := id h
  obtain ⟨l, hl, t1, t2, t3⟩ := id h.2.2.2.2.1
  obtain ⟨v, N, K, W, e1, e2, e3, e4, e5, e6, e7⟩ := E_river h r hl t1
  have c1 := c_Day_river (G := G) hl t1 r.1.1.1
  rw [e1] at c1
  exact ⟨v, N, W, c1, c_Mod_river2 hl e2 e3 e4 e5 e6, e7⟩
theorem L_sheet {G : ex_G} {M : ex_M} {s b n : Int32} (h : Rel M) : Bth G Y_Day_sheet Y_Mod_sheet 2 42 2 42 [.int s, .int b, .int n] M := Bth.mk (d := D_sheet M s b n) (r := fun N => R_sheet N s b n) c_Day_sheet c_Mod_sheet (E_sheet h)
theorem L_write {G : ex_G} {M : ex_M} {s i : Int32} {v : Int64} (h : Rel M) : BthL G Y_Day_write Y_Mod_write 3 63 2 42 [.int s, .int i, .long v] M := by
  have f : (D_write M s i v).2.1 18 = M.1 18 := by
    unfold D_write
    exact ifq (cdq rfl rfl) badv_q18
  have w6 : WS (M.1 6) := fun t ht => (h.2.2.2.2.2 t ht).2.2.1
  have w18 : WR4 (M.1 18) := fun t ht => by
    obtain ⟨a1, a2, ⟨l, hl, el⟩, -⟩ := h.2.2.2.2.2 t ht
    exact ⟨l, hl, a2.trans el⟩
  exact BthL.mk (d := D_write M s i v) (r := fun N => R_write N s i v) (c_Day_write w6) (c_Mod_write (by rw [f]; exact w18)) (E_write h)
theorem L_copy {G : ex_G} {M : ex_M} {s f t u n : Int32} (h : Rel M) : Bth G Y_Day_copy Y_Mod_copy 2 44 2 42 [.int s, .int f, .int t, .int u, .int n] M := by
  have g : (D_copy M s f t u n).2.1 18 = M.1 18 := by
    unfold D_copy
    exact cdq rfl (cdq rfl (ifq (cdq rfl rfl) rfl))
  have w6 : WS (M.1 6) := fun t ht => (h.2.2.2.2.2 t ht).2.2.1
  have w18 : WR4 (M.1 18) := fun t ht => by
    obtain ⟨a1, a2, ⟨l, hl, el⟩, -⟩ := h.2.2.2.2.2 t ht
    exact ⟨l, hl, a2.trans el⟩
  exact Bth.mk (d := D_copy M s f t u n) (r := fun N => R_copy N s f t u n) (c_Day_copy w6) (c_Mod_copy (by rw [g]; exact w18)) (E_copy h)
theorem L_lays {G : ex_G} {M : ex_M} {x : Int32} (h : Rel M) : Bth G Y_Day_lays Y_Mod_lays 3 63 3 63 [.int x] M := by
  obtain ⟨⟨np, ne, r⟩, -⟩ := id h
  obtain ⟨l, hl, q⟩ := sh_l h.2.2.2.2.2 x
  have f : (D_lays M np l x).2.1 10 = M.1 10 := by unfold D_lays; exact ifq rfl badv_q
  have g : (D_lays M np l x).2.1 18 = M.1 18 := by unfold D_lays; exact ifq rfl badv_q18
  exact Bth.mk (d := D_lays M np l x) (r := fun N => R_lays N np l x) (c_Day_lays r.1.1.1.2.1 r.1.1.1.1 (fun s hs e => ⟨hl, (q s hs e).2.1⟩)) (c_Mod_lays r.1.1.1.2.1 (by rw [f]; exact r.2.trans r.1.1.1.1) (fun s hs e => ⟨hl, by rw [g]; exact (q s hs e).2.2⟩)) (E_lays h r hl)
theorem L_book {G : ex_G} {M : ex_M} {x p : Int32} (h : Rel M) : Bth G Y_Day_book Y_Mod_book 4 93 5 112 [.int x, .int p] M := by
  obtain ⟨⟨np, ne, r⟩, -⟩ := id h
  obtain ⟨l, hl, q⟩ := sh_l h.2.2.2.2.2 x
  have f : (D_book M np ne l x p).2.1 10 = M.1 10 := by unfold D_book; exact ifq (cdq rfl ((bokL_q (by decide) _ _ _).trans rfl)) badv_q
  have g : (D_book M np ne l x p).2.1 18 = M.1 18 := by unfold D_book; exact ifq (cdq rfl ((bokL_q (by decide) _ _ _).trans rfl)) badv_q18
  exact Bth.mk (d := D_book M np ne l x p) (r := fun N => R_book N np ne l x p) (c_Day_book (fun s hs e => ⟨hl, (q s hs e).2.1⟩) r.1.1.1) (c_Mod_book (fun s hs e => ⟨hl, by rw [g]; exact (q s hs e).2.2⟩) (by rw [f]; exact RA_WF r)) (E_book h r hl)
theorem L_read {G : ex_G} {M : ex_M} {x p : Int32} (h : Rel M) : Bth G Y_Day_read Y_Mod_read 5 116 6 136 [.int x, .int p] M := by
  obtain ⟨⟨np, ne, r⟩, -⟩ := id h
  obtain ⟨l, hl, q⟩ := sh_l h.2.2.2.2.2 x
  have f : (D_read M np ne l x p).2.1 10 = M.1 10 := by unfold D_read; exact ifq (cdq rfl (rfl)) badv_q
  have g : (D_read M np ne l x p).2.1 18 = M.1 18 := by unfold D_read; exact ifq (cdq rfl (rfl)) badv_q18
  exact Bth.mk (d := D_read M np ne l x p) (r := fun N => R_read N np ne l x p) (c_Day_read (fun s hs e => ⟨hl, (q s hs e).2.1⟩) r.1.1.1) (c_Mod_read (fun s hs e => ⟨hl, by rw [g]; exact (q s hs e).2.2⟩) (by rw [f]; exact RA_WF r)) (E_read h r hl)
theorem L_image {G : ex_G} {M : ex_M} (h : Rel M) : Bth G Y_Day_image Y_Mod_image 2 43 1 22 [] M := by
  obtain ⟨⟨np, ne, r⟩, -⟩ := id h
  exact Bth.mk (d := D_image M np ne) (r := fun N => R_image N) (c_Day_image r.1.1.1) c_Mod_image (E_image h r)
theorem L_undo {G : ex_G} {M : ex_M} (h : Rel M) : Bth G Y_Day_undo Y_Mod_undo 2 43 1 22 [] M := by
  by_cases hz : M.1 3 0 = 0
  · exact Bth.mk (d := D_undo M 0 0) (r := fun N => R_undo N) (c_Day_undo (fun z => absurd hz z)) c_Mod_undo (E_undo h (fun z => absurd hz z))
  · obtain ⟨kp, ke, rk⟩ := h.2.1.2.2 hz
    exact Bth.mk (d := D_undo M kp ke) (r := fun N => R_undo N) (c_Day_undo (fun _ => rk.1.1.1)) c_Mod_undo (E_undo h (fun _ => rk))
theorem L_tear {G : ex_G} {M : ex_M} (h : Rel M) : Bth G Y_Day_tear Y_Mod_tear 0 0 0 0 [] M := Bth.mk (d := D_tear M) (r := fun N => R_tear N) c_Day_tear c_Mod_tear (E_tear h)
theorem L_count {G : ex_G} {M : ex_M} {w : Int32} (h : Rel M) : Bth G Y_Day_count Y_Mod_count 2 42 2 43 [.int w] M := by
  obtain ⟨⟨np, ne, r⟩, -⟩ := id h
  have f : (D_count M np w).2.1 10 = M.1 10 := by unfold D_count; exact ifq rfl (ifq rfl (ifq rfl (ifq rfl (rfl))))
  exact Bth.mk (d := D_count M np w) (r := fun N => R_count N np w) (c_Day_count r.1.1.1) (c_Mod_count (by rw [f]; exact RA_WF r)) (E_count h r)
theorem L_status {G : ex_G} {M : ex_M} {w : Int32} (h : Rel M) : Bth G Y_Day_status Y_Mod_status 1 22 1 22 [.int w] M := Bth.mk (d := D_status M w) (r := fun N => R_status N w) c_Day_status c_Mod_status (E_status h)
