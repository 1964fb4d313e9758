/-- the best so far (row 3: 1 its choice, 2 its amount), and an offer -/
def bst (a : Nat → Int32) (c b : Int32) : Nat → Int32 := if b ≤ a 2 then a else upd (upd a 1 c) 2 b
def bst0 (a : Nat → Int32) (f : Int32) : Nat → Int32 := upd (upd a 1 (-1000000004)) 2 f
theorem c_Best_offer2 {G : ex_G} {M : ex_M} {c b : Int32} : Con G Y_Best_offer 0 0 0 0 [.ref (ex_b G + 58), .int c, .int b] (ce G M) none (ce G (mI M 3 (bst (M.1 3) c b))) := by
  refine Con.to c_Best_offer rfl ?_
  unfold bst
  split
  · rw [mI_id]
  · rfl
/-- trials, one behind another: m of them from number i on; nh people go through the hours -/
def lpB (np ne nh n : Nat) (skip : Nat → Bool) (mu : Nat → (Nat → Int32) → (Nat → Int32)) (val : (Nat → Int32) → Int32) (q : Nat → Int32) : Nat → Nat → (Nat → Int32) × (Nat → Int32) → (Nat → Int32) × (Nat → Int32)
  | 0, _, z => z
  | m + 1, i, z => lpB np ne nh n skip mu val q m (i + 1) (bif skip i then z else (hoursC nh ne n (mu i (becR z.1 q np ne)), bst z.2 (nI i) (val (hoursC nh ne n (mu i (becR z.1 q np ne))))))
def fin3 (M : ex_M) (z : (Nat → Int32) × (Nat → Int32)) : ex_M := mI (mI M 1 z.1) 3 z.2
theorem fin3_13 (M : ex_M) (a b : Nat → Int32) (z : (Nat → Int32) × (Nat → Int32)) : fin3 (mI (mI M 1 a) 3 b) z = fin3 M z := by
  simp only [fin3, mI, wr_swap (wr M.1 1 a) (show (3 : Nat) ≠ 1 by decide) b z.1, wr_wr]
theorem fin3_id (M : ex_M) : fin3 M (M.1 1, M.1 3) = M := by simp only [fin3, mI, wr_id]
def D_noOne (M : ex_M) (p n m : Int32) : Bool := out p 0 (M.1 0 3 - 1) || out n 0 m
def zBank (M : ex_M) (np ne : Nat) (p n : Int32) := lpB np ne np (ix n) (fun _ => false) (fun v b => upd b (28 + 7 * ix p + 1) (nI v)) (fun t => t (28 + 7 * ix p + 2)) (M.1 0) 2 0 (M.1 1, bst0 (M.1 3) (-1))
def D_bank (M : ex_M) (np ne : Nat) (p n : Int32) : Int32 × ex_M := bif D_noOne M p n 72 then bad M 0 else ((zBank M np ne p n).2 1, fin3 M (zBank M np ne p n))
def zKind (M : ex_M) (np ne : Nat) (p n : Int32) := lpB np ne np (ix n) (fun _ => false) (fun v b => upd b (28 + 7 * ix p + 0) (nI v)) (fun t => t (28 + 7 * ix p + 2)) (M.1 0) 6 0 (M.1 1, bst0 (M.1 3) (-1))
def D_kind (M : ex_M) (np ne : Nat) (p n : Int32) : Int32 × ex_M := bif D_noOne M p n 72 then bad M 0 else ((zKind M np ne p n).2 1, fin3 M (zKind M np ne p n))
def muC (p v : Nat) (b : Nat → Int32) : Nat → Int32 := upd (upd b (28 + 7 * p + 3) (nI (v / 24))) (28 + 7 * p + 4) (nI (v % 24))
def zClk (M : ex_M) (np ne : Nat) (p n : Int32) := lpB np ne np (ix n) (fun _ => false) (muC (ix p)) (fun t => t (28 + 7 * ix p + 2)) (M.1 0) 576 0 (M.1 1, bst0 (M.1 3) (-1))
def D_clocks (M : ex_M) (np ne : Nat) (p n : Int32) : Int32 × ex_M := bif D_noOne M p n 48 then bad M 0 else ((zClk M np ne p n).2 1, fin3 M (zClk M np ne p n))
def D_rich (M : ex_M) (np ne : Nat) (p n : Int32) : Int32 × ex_M := bif D_noOne M p n 48 then bad M 0 else ((zClk M np ne p n).2 2, fin3 M (zClk M np ne p n))
def orN (M : ex_M) (v : Int32) : Int32 × ex_M := if v = -1000000004 then bad M 3 else (v, M)
def zNews (M : ex_M) (np ne : Nat) (p n : Int32) := lpB np ne np (ix n) (fun e => hb (M.1 0 (28 + 7 * ix p + 6)) (nI e)) (fun e b => oHear b (ix p) ((1 : Int32) <<< (nI e &&& 31))) (fun t => t (28 + 7 * ix p + 2)) (M.1 0) ne 0 (hoursC np ne (ix n) (tro M np ne), bst0 (M.1 3) (hoursC np ne (ix n) (tro M np ne) (28 + 7 * ix p + 2)))
def D_news (M : ex_M) (np ne : Nat) (p n : Int32) : Int32 × ex_M := bif D_noOne M p n 72 then bad M 0 else orN (fin3 M (zNews M np ne p n)) ((zNews M np ne p n).2 1)
def metC (t : Nat → Int32) (ne : Nat) : Int32 := nI (popc (ix (metS t ne)))
def zNeed (M : ex_M) (np ne : Nat) (n : Int32) := lpB np ne (np - 1) (ix n) (fun _ => false) (fun i b => sendAw i np b) (fun t => -metC t ne) (M.1 0) np 0 (hoursC np ne (ix n) (tro M np ne), bst0 (M.1 3) (-metC (hoursC np ne (ix n) (tro M np ne)) ne))
def D_needed (M : ex_M) (np ne : Nat) (n : Int32) : Int32 × ex_M := bif out n 0 72 then bad M 0 else orN (fin3 M (zNeed M np ne n)) ((zNeed M np ne n).2 1)
def brs (np ne n : Nat) (v : Int32) (q : Nat → Int32) : Nat → (Nat → Int32) → Option Nat × (Nat → Int32)
  | 0, b => (none, b)
  | m + 1, b => if sumF (hoursC np ne n (upd (becR b q np ne) 1 (nI m))) 2 np 0 0 < v then brs np ne n v q m (hoursC np ne n (upd (becR b q np ne) 1 (nI m))) else (some m, hoursC np ne n (upd (becR b q np ne) 1 (nI m)))
def D_bears (M : ex_M) (np ne : Nat) (v n : Int32) : Int32 × ex_M := bif out v 0 99999 || out n 0 48 then bad M 0 else finS M (brs np ne (ix n) v (M.1 0) 100 (M.1 1))
def tSum (M : ex_M) (np ne : Nat) (e n : Int32) : Nat → Int32 := hoursC np ne (ix n) (upd (becR (hoursC np ne (ix n) (tro M np ne)) (M.1 0) np ne) (4 + 3 * ix e + 1) 0)
def D_sum (M : ex_M) (np ne : Nat) (e n : Int32) : Int32 × ex_M := bif out e 0 (M.1 0 2 - 1) || out n 0 72 then bad M 0 else (sumF (hoursC np ne (ix n) (tro M np ne)) 2 np 0 0 - sumF (tSum M np ne e n) 2 np 0 0, mI M 1 (tSum M np ne e n))

set_option maxHeartbeats 2000000 in
set_option maxRecDepth 10000 in
theorem c_Day_purseInTrial {G : ex_G} {M : ex_M} {np ne i h : Nat} (hn : np ≤ 8) (hn2 : ne ≤ 8) (hi : i < 8) (hh : h < 2 ^ 30) (hc : M.1 1 3 = nI np) (hc2 : M.1 1 2 = nI ne) : Con G Y_Day_purseInTrial 5 115 0 0 [.ref (ex_b G + 0), .int (nI i), .int (nI h)] (ce G M) (some (.int (hoursC np ne h (M.1 1) (28 + 7 * i + 2)))) (ce G (mI M 1 (hoursC np ne h (M.1 1)))) := by
  refine Con.ofF (plainFor_of_name (by decide +kernel)) (Nat.le_of_ble_eq_true rfl) (fun C hC hR => ?_)
  show Ev G C Y_Day_purseInTrial 0 [some (.ref (ex_b G + 0)), some (.int (nI i)), some (.int (nI h))] [] 0 0 (ce G M)
  refine ev_aload_n rfl hC d_Day_purseInTrial_0 ?_
  refine gv_Day_trial hC d_Day_purseInTrial_1 fl_Day_16  ?_
  refine ev_iload_n rfl hC d_Day_purseInTrial_4 ?_
  refine cv_River0 hC d_Day_purseInTrial_5 (c_River_passHours hn hn2 (by decide) hh hc hc2) mi_River_passHours ml_Day_165 im_River_passHours se_River_passHours rfl ⟨Nat.le_of_ble_eq_true rfl, Nat.le_of_ble_eq_true rfl⟩ ⟨Nat.le_of_ble_eq_true rfl, Nat.le_of_ble_eq_true rfl⟩ rfl rfl (Nat.le_of_ble_eq_true rfl) (by first | assumption | decide) ?_
  refine ev_aload_n rfl hC d_Day_purseInTrial_8 ?_
  refine gv_Day_trial hC d_Day_purseInTrial_9 fl_Day_16  ?_
  refine gn_River_people hC d_Day_purseInTrial_12 fl_Day_111 (by first | assumption | decide) ?_
  refine ev_iload_n rfl hC d_Day_purseInTrial_15 ?_
  refine gr_people hC d_Day_purseInTrial_16 (by first | assumption | decide) (by first | assumption | omega) ?_
  refine gn_One_purse hC d_Day_purseInTrial_17 fl_Day_123 (by first | assumption | decide) (by first | assumption | omega) ?_
  exact ev_iret hC hR d_Day_purseInTrial_20 rfl (by simp only [mI, wr_s]) (rfl)

set_option maxHeartbeats 2000000 in
set_option maxRecDepth 10000 in
theorem c_Day_metInTrial {G : ex_G} {M : ex_M} {np ne h : Nat} (hn : np ≤ 8) (hn2 : ne ≤ 8) (hh : h < 2 ^ 30) (hc : M.1 1 3 = nI np) (hc2 : M.1 1 2 = nI ne) : Con G Y_Day_metInTrial 5 115 0 0 [.ref (ex_b G + 0), .int (nI h)] (ce G M) (some (.int (metC (hoursC np ne h (M.1 1)) ne))) (ce G (mI M 1 (hoursC np ne h (M.1 1)))) := by
  refine Con.ofF (plainFor_of_name (by decide +kernel)) (Nat.le_of_ble_eq_true rfl) (fun C hC hR => ?_)
  show Ev G C Y_Day_metInTrial 0 [some (.ref (ex_b G + 0)), some (.int (nI h))] [] 0 0 (ce G M)
  refine ev_aload_n rfl hC d_Day_metInTrial_0 ?_
  refine gv_Day_trial hC d_Day_metInTrial_1 fl_Day_16  ?_
  refine ev_iload_n rfl hC d_Day_metInTrial_4 ?_
  refine cv_River0 hC d_Day_metInTrial_5 (c_River_passHours hn hn2 (by decide) hh hc hc2) mi_River_passHours ml_Day_165 im_River_passHours se_River_passHours rfl ⟨Nat.le_of_ble_eq_true rfl, Nat.le_of_ble_eq_true rfl⟩ ⟨Nat.le_of_ble_eq_true rfl, Nat.le_of_ble_eq_true rfl⟩ rfl rfl (Nat.le_of_ble_eq_true rfl) (by first | assumption | decide) ?_
  refine ev_aload_n rfl hC d_Day_metInTrial_8 ?_
  refine gv_Day_trial hC d_Day_metInTrial_9 fl_Day_16  ?_
  refine cv_River1 hC d_Day_metInTrial_12 (c_River_metEvents hn2 (by decide) (by simp only [mI, wr_s]; rw [hoursC_cnt hn2 (by omega) (by omega)]; exact hc2)) mi_River_metEvents ml_Day_178 im_River_metEvents se_River_metEvents rfl ⟨Nat.le_of_ble_eq_true rfl, Nat.le_of_ble_eq_true rfl⟩ ⟨Nat.le_of_ble_eq_true rfl, Nat.le_of_ble_eq_true rfl⟩ rfl rfl (Nat.le_of_ble_eq_true rfl) (by first | assumption | decide) ?_
  simp only [mI, wr_s]
  rw [(setF_256 (p := fun i => !decide (hoursC np ne h (M.1 1) (4 + 3 * i + 2) = 0)) hn2).1]
  refine cs_1 hC d_Day_metInTrial_15 (c_Int_bitCount (setF_256 (p := fun i => !decide (hoursC np ne h (M.1 1) (4 + 3 * i + 2) = 0)) hn2).2) mi_Int_bitCount ml_Day_160 sm_Int_bitCount ⟨Nat.le_of_ble_eq_true rfl, Nat.le_of_ble_eq_true rfl⟩ ⟨Nat.le_of_ble_eq_true rfl, Nat.le_of_ble_eq_true rfl⟩ rfl rfl (Nat.le_of_ble_eq_true rfl) ?_
  exact ev_iret hC hR d_Day_metInTrial_18 rfl (by rw [metC, metS, (setF_256 (p := fun i => !decide (hoursC np ne h (M.1 1) (4 + 3 * i + 2) = 0)) hn2).1, ix, nI_clamp (by have := (setF_256 (p := fun i => !decide (hoursC np ne h (M.1 1) (4 + 3 * i + 2) = 0)) hn2).2; omega)]) (rfl)

set_option maxHeartbeats 2000000 in
set_option maxRecDepth 10000 in
theorem c_Day_startTrialByClocks {G : ex_G} {M : ex_M} {np ne i : Nat} {g c : Int32} (hi : i < 8) (w : WF (M.1 0) np ne) : Con G Y_Day_startTrialByClocks 3 63 0 0 [.ref (ex_b G + 0), .int (nI i), .int g, .int c] (ce G M) (none) (ce G (mI M 1 (upd (upd (tro M np ne) (28 + 7 * i + 3) g) (28 + 7 * i + 4) c))) := by
  refine Con.ofF (plainFor_of_name (by decide +kernel)) (Nat.le_of_ble_eq_true rfl) (fun C hC hR => ?_)
  show Ev G C Y_Day_startTrialByClocks 0 [some (.ref (ex_b G + 0)), some (.int (nI i)), some (.int g), some (.int c)] [] 0 0 (ce G M)
  obtain ⟨hc, hn, hc2, hn2, hmet, hkd, hkn⟩ := w
  refine ev_aload_n rfl hC d_Day_startTrialByClocks_0 ?_
  refine cv_Day0 hC d_Day_startTrialByClocks_1 (c_Day_startTrial ⟨hc, hn, hc2, hn2, hmet, hkd, hkn⟩) mi_Day_startTrial ml_Day_181 im_Day_startTrial se_Day_startTrial rfl ⟨Nat.le_of_ble_eq_true rfl, Nat.le_of_ble_eq_true rfl⟩ ⟨Nat.le_of_ble_eq_true rfl, Nat.le_of_ble_eq_true rfl⟩ rfl rfl (Nat.le_of_ble_eq_true rfl)  ?_
  refine ev_aload_n rfl hC d_Day_startTrialByClocks_4 ?_
  refine gv_Day_trial hC d_Day_startTrialByClocks_5 fl_Day_16  ?_
  refine gn_River_people hC d_Day_startTrialByClocks_8 fl_Day_111 (by first | assumption | decide) ?_
  refine ev_iload_n rfl hC d_Day_startTrialByClocks_11 ?_
  refine gr_people hC d_Day_startTrialByClocks_12 (by first | assumption | decide) (by first | assumption | omega) ?_
  refine ev_iload_n rfl hC d_Day_startTrialByClocks_13 ?_
  refine pn_One_goes hC d_Day_startTrialByClocks_14 fl_Day_126 (by first | assumption | decide) (by first | assumption | omega) ?_
  refine ev_aload_n rfl hC d_Day_startTrialByClocks_17 ?_
  refine gv_Day_trial hC d_Day_startTrialByClocks_18 fl_Day_16  ?_
  refine gn_River_people hC d_Day_startTrialByClocks_21 fl_Day_111 (by first | assumption | decide) ?_
  refine ev_iload_n rfl hC d_Day_startTrialByClocks_24 ?_
  refine gr_people hC d_Day_startTrialByClocks_25 (by first | assumption | decide) (by first | assumption | omega) ?_
  refine ev_iload_n rfl hC d_Day_startTrialByClocks_26 ?_
  refine pn_One_comes hC d_Day_startTrialByClocks_27 fl_Day_129 (by first | assumption | decide) (by first | assumption | omega) ?_
  exact ev_vret hC hR d_Day_startTrialByClocks_30 rfl rfl (by simp only [tr0, tro, mI, mJ, wr_wr, wr_s])

set_option maxHeartbeats 4000000 in
set_option maxRecDepth 10000 in
theorem lp_Day_bank {G : ex_G} {C : ex_C} {rr : Option Value} {ee : List va_E} {np ne j h : Nat} {q : Nat → Int32} (hj : j < 8) (hh : h < 2 ^ 30) (w : WF q np ne) (hC : Cx G C Y_Day_bank { frames := 6, cells := 0, slots := 0, locals := 137 }) (hR : Cr G C Y_Day_bank 0 0 rr ee) :
    ∀ (m i : Nat) (M : ex_M), i + m = 2 → M.1 0 = q → rr = some (.int ((lpB np ne np h (fun _ => false) (fun v b => upd b (28 + 7 * j + 1) (nI v)) (fun t => t (28 + 7 * j + 2)) q m i (M.1 1, M.1 3)).2 1)) ∧ ee = ce G (fin3 M (lpB np ne np h (fun _ => false) (fun v b => upd b (28 + 7 * j + 1) (nI v)) (fun t => t (28 + 7 * j + 2)) q m i (M.1 1, M.1 3))) → Ev G C Y_Day_bank 35 [some (.ref (ex_b G + 0)), some (.int (nI j)), some (.int (nI h)), some (.int (nI i))] [] 0 0 (ce G (M)) := by
  intro m
  induction m with
  | zero =>
    intro i M hm hc he
    refine ev_iload_n rfl hC d_Day_bank_35 ?_
    refine ev_iconst (v := 1) rfl hC d_Day_bank_36 ?_
    refine ev_icmp_gt 77 hC d_Day_bank_37 rfl (fun _ => ?_) (fun h => absurd (by rw [show (1 : Int32) = nI 1 from rfl]; exact nI_lt (by omega) (by omega)) h)
    refine ev_aload_n rfl hC d_Day_bank_77 ?_
    refine gv_Day_best hC d_Day_bank_78 fl_Day_29  ?_
    refine gn_Best_choice hC d_Day_bank_81 fl_Day_198  ?_
    exact ev_iret hC hR d_Day_bank_84 rfl (by rw [he.1, lpB]) (by rw [he.2, lpB, fin3_id])
  | succ m ih =>
    intro i M hm hc he
    obtain ⟨wc, hn, wc2, hn2, -, -, -⟩ := id w
    refine ev_iload_n rfl hC d_Day_bank_35 ?_
    refine ev_iconst (v := 1) rfl hC d_Day_bank_36 ?_
    refine ev_icmp_gt 77 hC d_Day_bank_37 rfl (fun h => absurd h (by rw [show (1 : Int32) = nI 1 from rfl]; exact nI_nlt (by omega) (by omega))) (fun _ => ?_)
    refine ev_aload_n rfl hC d_Day_bank_40 ?_
    refine cv_Day0 hC d_Day_bank_41 (c_Day_startTrial (by rw [hc]; exact w)) mi_Day_startTrial ml_Day_181 im_Day_startTrial se_Day_startTrial rfl ⟨Nat.le_of_ble_eq_true rfl, Nat.le_of_ble_eq_true rfl⟩ ⟨Nat.le_of_ble_eq_true rfl, Nat.le_of_ble_eq_true rfl⟩ rfl rfl (Nat.le_of_ble_eq_true rfl)  ?_
    refine ev_aload_n rfl hC d_Day_bank_44 ?_
    refine gv_Day_trial hC d_Day_bank_45 fl_Day_16  ?_
    refine gn_River_people hC d_Day_bank_48 fl_Day_111 (by first | assumption | decide) ?_
    refine ev_iload_n rfl hC d_Day_bank_51 ?_
    refine gr_people hC d_Day_bank_52 (by first | assumption | decide) (by first | assumption | omega) ?_
    refine ev_iload_n rfl hC d_Day_bank_53 ?_
    refine pn_One_bank hC d_Day_bank_54 fl_Day_120 (by first | assumption | decide) (by first | assumption | omega) ?_
    refine ev_aload_n rfl hC d_Day_bank_57 ?_
    refine gv_Day_best hC d_Day_bank_58 fl_Day_29  ?_
    refine ev_iload_n rfl hC d_Day_bank_61 ?_
    refine ev_aload_n rfl hC d_Day_bank_62 ?_
    refine ev_iload_n rfl hC d_Day_bank_63 ?_
    refine ev_iload_n rfl hC d_Day_bank_64 ?_
    refine cv_Day1 hC d_Day_bank_65 (c_Day_purseInTrial hn hn2 hj hh (by simp only [tr0, mI, mJ, wr_s]; rw [ud_n (by omega), becR_lo (by omega), hc]; exact wc) (by simp only [tr0, mI, mJ, wr_s]; rw [ud_n (by omega), becR_lo (by omega), hc]; exact wc2)) mi_Day_purseInTrial ml_Day_208 im_Day_purseInTrial se_Day_purseInTrial rfl ⟨Nat.le_of_ble_eq_true rfl, Nat.le_of_ble_eq_true rfl⟩ ⟨Nat.le_of_ble_eq_true rfl, Nat.le_of_ble_eq_true rfl⟩ rfl rfl (Nat.le_of_ble_eq_true rfl)  ?_
    refine cv_Best0 hC d_Day_bank_68 (c_Best_offer2) mi_Best_offer ml_Day_211 im_Best_offer se_Best_offer rfl ⟨Nat.le_of_ble_eq_true rfl, Nat.le_of_ble_eq_true rfl⟩ ⟨Nat.le_of_ble_eq_true rfl, Nat.le_of_ble_eq_true rfl⟩ rfl rfl (Nat.le_of_ble_eq_true rfl)  ?_
    refine ev_iinc rfl (by decide) (nI_1 _) hC d_Day_bank_71 ?_
    refine ev_goto 35 hC d_Day_bank_74 rfl ?_
    refine ih (i + 1) _ (by omega) (by simp only [tr0, mI, mJ]; rw [wr_n (by decide), wr_n (by decide)]; exact hc) ?_
    rw [he.1, he.2, lpB]
    simp only [tr0, mI, mJ, wr_wr, wr_s, wr_n (show (3 : Nat) ≠ 1 by decide), wr_n (show (1 : Nat) ≠ 3 by decide), cond_false, hc]
    refine ⟨trivial, ?_⟩
    exact (congrArg (ce G) (fin3_13 M _ _ _)).symm

set_option maxHeartbeats 2000000 in
set_option maxRecDepth 10000 in
theorem c_Day_bank {G : ex_G} {M : ex_M} {np ne : Nat} {p n : Int32} (w : WF (M.1 0) np ne) : Con G Y_Day_bank 6 137 0 0 [.ref (ex_b G + 0), .int p, .int n] (ce G M) (some (.int (D_bank M np ne p n).1)) (ce G ((D_bank M np ne p n).2)) := by
  refine Con.ofF (plainFor_of_name (by decide +kernel)) (Nat.le_of_ble_eq_true rfl) (fun C hC hR => ?_)
  show Ev G C Y_Day_bank 0 [some (.ref (ex_b G + 0)), some (.int p), some (.int n)] [] 0 0 (ce G M)
  obtain ⟨hc, hn, hc2, hn2, hmet, hkd, hkn⟩ := w
  refine ev_aload_n rfl hC d_Day_bank_0 ?_
  refine ev_iload_n rfl hC d_Day_bank_1 ?_
  refine cv_Day1 hC d_Day_bank_2 (c_Day_noOne ) mi_Day_noOne ml_Day_108 im_Day_noOne se_Day_noOne rfl ⟨Nat.le_of_ble_eq_true rfl, Nat.le_of_ble_eq_true rfl⟩ ⟨Nat.le_of_ble_eq_true rfl, Nat.le_of_ble_eq_true rfl⟩ rfl rfl (Nat.le_of_ble_eq_true rfl)  ?_
  refine eb_ne 18 hC d_Day_bank_5 rfl (fun h_5 => ?_) (fun h_5 => ?_)
  · refine ev_aload_n rfl hC d_Day_bank_18 ?_
    refine ev_ldc kc_Day_55 hC d_Day_bank_19 ?_
    refine cv_Day1 hC d_Day_bank_21 (c_Day_refuse (k := 0) (by omega) (by decide +kernel)) mi_Day_refuse ml_Day_56 im_Day_refuse se_Day_refuse rfl ⟨Nat.le_of_ble_eq_true rfl, Nat.le_of_ble_eq_true rfl⟩ ⟨Nat.le_of_ble_eq_true rfl, Nat.le_of_ble_eq_true rfl⟩ rfl rfl (Nat.le_of_ble_eq_true rfl)  ?_
    exact ev_iret hC hR d_Day_bank_24 rfl (by simp only [D_bank, D_noOne, bad, h_5, if_true, if_false, cond_true, cond_false, decide_true, decide_false, Bool.not_true, Bool.not_false, Bool.or_true, Bool.true_or, Bool.or_false, Bool.false_or, Bool.and_true, Bool.and_false, Bool.true_and, Bool.false_and, Bool.or_self, Bool.and_self, eq_self] <;> first | rfl | (rfl)) (by simp only [D_bank, D_noOne, bad, h_5, if_true, if_false, cond_true, cond_false, decide_true, decide_false, Bool.not_true, Bool.not_false, Bool.or_true, Bool.true_or, Bool.or_false, Bool.false_or, Bool.and_true, Bool.and_false, Bool.true_and, Bool.false_and, Bool.or_self, Bool.and_self, eq_self] <;> first | rfl | (rfl))
  · refine ev_iload_n rfl hC d_Day_bank_8 ?_
    refine ev_iconst (v := 0) rfl hC d_Day_bank_9 ?_
    refine ev_bipush (v := 72) rfl hC d_Day_bank_10 ?_
    refine cs_1 hC d_Day_bank_12 (c_Day_outside ) mi_Day_outside ml_Day_51 sm_Day_outside ⟨Nat.le_of_ble_eq_true rfl, Nat.le_of_ble_eq_true rfl⟩ ⟨Nat.le_of_ble_eq_true rfl, Nat.le_of_ble_eq_true rfl⟩ rfl rfl (Nat.le_of_ble_eq_true rfl) ?_
    refine eb_eq 25 hC d_Day_bank_15 rfl (fun h_15 => ?_) (fun h_15 => ?_)
    · obtain ⟨i, hi, rfl⟩ := out_ix hc hn h_5
      have ci : (nI i).toNatClampNeg = i := nI_clamp (by omega)
      obtain ⟨n1, hn1, rfl⟩ := out_nat (n := 72) (by decide) h_15
      have cn : (nI n1).toNatClampNeg = n1 := nI_clamp (by omega)
      refine ev_aload_n rfl hC d_Day_bank_25 ?_
      refine gv_Day_best hC d_Day_bank_26 fl_Day_29  ?_
      refine ev_iconst (v := -1) rfl hC d_Day_bank_29 ?_
      refine cv_Best0 hC d_Day_bank_30 (c_Best_begin ) mi_Best_begin ml_Day_205 im_Best_begin se_Best_begin rfl ⟨Nat.le_of_ble_eq_true rfl, Nat.le_of_ble_eq_true rfl⟩ ⟨Nat.le_of_ble_eq_true rfl, Nat.le_of_ble_eq_true rfl⟩ rfl rfl (Nat.le_of_ble_eq_true rfl)  ?_
      refine ev_iconst (v := nI 0) rfl hC d_Day_bank_33 ?_
      refine ev_istore_n (by decide) hC d_Day_bank_34 ?_
      refine lp_Day_bank (by omega) (by omega) (np := np) (ne := ne) (q := M.1 0) ⟨hc, hn, hc2, hn2, hmet, hkd, hkn⟩ hC hR 2 0 _ (by omega) (by simp only [mI]; rw [wr_n (by decide)]) ?_
      simp only [D_bank, D_noOne, zBank, h_5, h_15, ix, ci, cn, if_true, if_false, cond_true, cond_false, decide_true, decide_false, Bool.not_true, Bool.not_false, Bool.or_true, Bool.true_or, Bool.or_false, Bool.false_or, Bool.and_true, Bool.and_false, Bool.true_and, Bool.false_and, Bool.or_self, Bool.and_self, eq_self]
      simp only [mI, wr_s, wr_n (show (1 : Nat) ≠ 3 by decide)]
      refine ⟨rfl, ?_⟩
      rw [show fin3 (wr M.1 3 (upd (upd (M.1 3) 1 (-1000000004)) 2 (-1)), M.2) = fin3 (mI (mI M 1 (M.1 1)) 3 (upd (upd (M.1 3) 1 (-1000000004)) 2 (-1))) by simp only [mI, wr_id], fin3_13]
      rfl
    · refine ev_aload_n rfl hC d_Day_bank_18 ?_
      refine ev_ldc kc_Day_55 hC d_Day_bank_19 ?_
      refine cv_Day1 hC d_Day_bank_21 (c_Day_refuse (k := 0) (by omega) (by decide +kernel)) mi_Day_refuse ml_Day_56 im_Day_refuse se_Day_refuse rfl ⟨Nat.le_of_ble_eq_true rfl, Nat.le_of_ble_eq_true rfl⟩ ⟨Nat.le_of_ble_eq_true rfl, Nat.le_of_ble_eq_true rfl⟩ rfl rfl (Nat.le_of_ble_eq_true rfl)  ?_
      exact ev_iret hC hR d_Day_bank_24 rfl (by simp only [D_bank, D_noOne, bad, h_5, h_15, if_true, if_false, cond_true, cond_false, decide_true, decide_false, Bool.not_true, Bool.not_false, Bool.or_true, Bool.true_or, Bool.or_false, Bool.false_or, Bool.and_true, Bool.and_false, Bool.true_and, Bool.false_and, Bool.or_self, Bool.and_self, eq_self] <;> first | rfl | (rfl)) (by simp only [D_bank, D_noOne, bad, h_5, h_15, if_true, if_false, cond_true, cond_false, decide_true, decide_false, Bool.not_true, Bool.not_false, Bool.or_true, Bool.true_or, Bool.or_false, Bool.false_or, Bool.and_true, Bool.and_false, Bool.true_and, Bool.false_and, Bool.or_self, Bool.and_self, eq_self] <;> first | rfl | (rfl))

set_option maxHeartbeats 4000000 in
set_option maxRecDepth 10000 in
theorem lp_Day_kind {G : ex_G} {C : ex_C} {rr : Option Value} {ee : List va_E} {np ne j h : Nat} {q : Nat → Int32} (hj : j < 8) (hh : h < 2 ^ 30) (w : WF q np ne) (hC : Cx G C Y_Day_kind { frames := 6, cells := 0, slots := 0, locals := 137 }) (hR : Cr G C Y_Day_kind 0 0 rr ee) :
    ∀ (m i : Nat) (M : ex_M), i + m = 6 → M.1 0 = q → rr = some (.int ((lpB np ne np h (fun _ => false) (fun v b => upd b (28 + 7 * j + 0) (nI v)) (fun t => t (28 + 7 * j + 2)) q m i (M.1 1, M.1 3)).2 1)) ∧ ee = ce G (fin3 M (lpB np ne np h (fun _ => false) (fun v b => upd b (28 + 7 * j + 0) (nI v)) (fun t => t (28 + 7 * j + 2)) q m i (M.1 1, M.1 3))) → Ev G C Y_Day_kind 35 [some (.ref (ex_b G + 0)), some (.int (nI j)), some (.int (nI h)), some (.int (nI i))] [] 0 0 (ce G (M)) := by
  intro m
  induction m with
  | zero =>
    intro i M hm hc he
    refine ev_iload_n rfl hC d_Day_kind_35 ?_
    refine ev_iconst (v := 5) rfl hC d_Day_kind_36 ?_
    refine ev_icmp_gt 77 hC d_Day_kind_37 rfl (fun _ => ?_) (fun h => absurd (by rw [show (5 : Int32) = nI 5 from rfl]; exact nI_lt (by omega) (by omega)) h)
    refine ev_aload_n rfl hC d_Day_kind_77 ?_
    refine gv_Day_best hC d_Day_kind_78 fl_Day_29  ?_
    refine gn_Best_choice hC d_Day_kind_81 fl_Day_198  ?_
    exact ev_iret hC hR d_Day_kind_84 rfl (by rw [he.1, lpB]) (by rw [he.2, lpB, fin3_id])
  | succ m ih =>
    intro i M hm hc he
    obtain ⟨wc, hn, wc2, hn2, -, -, -⟩ := id w
    refine ev_iload_n rfl hC d_Day_kind_35 ?_
    refine ev_iconst (v := 5) rfl hC d_Day_kind_36 ?_
    refine ev_icmp_gt 77 hC d_Day_kind_37 rfl (fun h => absurd h (by rw [show (5 : Int32) = nI 5 from rfl]; exact nI_nlt (by omega) (by omega))) (fun _ => ?_)
    refine ev_aload_n rfl hC d_Day_kind_40 ?_
    refine cv_Day0 hC d_Day_kind_41 (c_Day_startTrial (by rw [hc]; exact w)) mi_Day_startTrial ml_Day_181 im_Day_startTrial se_Day_startTrial rfl ⟨Nat.le_of_ble_eq_true rfl, Nat.le_of_ble_eq_true rfl⟩ ⟨Nat.le_of_ble_eq_true rfl, Nat.le_of_ble_eq_true rfl⟩ rfl rfl (Nat.le_of_ble_eq_true rfl)  ?_
    refine ev_aload_n rfl hC d_Day_kind_44 ?_
    refine gv_Day_trial hC d_Day_kind_45 fl_Day_16  ?_
    refine gn_River_people hC d_Day_kind_48 fl_Day_111 (by first | assumption | decide) ?_
    refine ev_iload_n rfl hC d_Day_kind_51 ?_
    refine gr_people hC d_Day_kind_52 (by first | assumption | decide) (by first | assumption | omega) ?_
    refine ev_iload_n rfl hC d_Day_kind_53 ?_
    refine pn_One_kind hC d_Day_kind_54 fl_Day_115 (by first | assumption | decide) (by first | assumption | omega) ?_
    refine ev_aload_n rfl hC d_Day_kind_57 ?_
    refine gv_Day_best hC d_Day_kind_58 fl_Day_29  ?_
    refine ev_iload_n rfl hC d_Day_kind_61 ?_
    refine ev_aload_n rfl hC d_Day_kind_62 ?_
    refine ev_iload_n rfl hC d_Day_kind_63 ?_
    refine ev_iload_n rfl hC d_Day_kind_64 ?_
    refine cv_Day1 hC d_Day_kind_65 (c_Day_purseInTrial hn hn2 hj hh (by simp only [tr0, mI, mJ, wr_s]; rw [ud_n (by omega), becR_lo (by omega), hc]; exact wc) (by simp only [tr0, mI, mJ, wr_s]; rw [ud_n (by omega), becR_lo (by omega), hc]; exact wc2)) mi_Day_purseInTrial ml_Day_208 im_Day_purseInTrial se_Day_purseInTrial rfl ⟨Nat.le_of_ble_eq_true rfl, Nat.le_of_ble_eq_true rfl⟩ ⟨Nat.le_of_ble_eq_true rfl, Nat.le_of_ble_eq_true rfl⟩ rfl rfl (Nat.le_of_ble_eq_true rfl)  ?_
    refine cv_Best0 hC d_Day_kind_68 (c_Best_offer2) mi_Best_offer ml_Day_211 im_Best_offer se_Best_offer rfl ⟨Nat.le_of_ble_eq_true rfl, Nat.le_of_ble_eq_true rfl⟩ ⟨Nat.le_of_ble_eq_true rfl, Nat.le_of_ble_eq_true rfl⟩ rfl rfl (Nat.le_of_ble_eq_true rfl)  ?_
    refine ev_iinc rfl (by decide) (nI_1 _) hC d_Day_kind_71 ?_
    refine ev_goto 35 hC d_Day_kind_74 rfl ?_
    refine ih (i + 1) _ (by omega) (by simp only [tr0, mI, mJ]; rw [wr_n (by decide), wr_n (by decide)]; exact hc) ?_
    rw [he.1, he.2, lpB]
    simp only [tr0, mI, mJ, wr_wr, wr_s, wr_n (show (3 : Nat) ≠ 1 by decide), wr_n (show (1 : Nat) ≠ 3 by decide), cond_false, hc]
    refine ⟨trivial, ?_⟩
    exact (congrArg (ce G) (fin3_13 M _ _ _)).symm

set_option maxHeartbeats 2000000 in
set_option maxRecDepth 10000 in
theorem c_Day_kind {G : ex_G} {M : ex_M} {np ne : Nat} {p n : Int32} (w : WF (M.1 0) np ne) : Con G Y_Day_kind 6 137 0 0 [.ref (ex_b G + 0), .int p, .int n] (ce G M) (some (.int (D_kind M np ne p n).1)) (ce G ((D_kind M np ne p n).2)) := by
  refine Con.ofF (plainFor_of_name (by decide +kernel)) (Nat.le_of_ble_eq_true rfl) (fun C hC hR => ?_)
  show Ev G C Y_Day_kind 0 [some (.ref (ex_b G + 0)), some (.int p), some (.int n)] [] 0 0 (ce G M)
  obtain ⟨hc, hn, hc2, hn2, hmet, hkd, hkn⟩ := w
  refine ev_aload_n rfl hC d_Day_kind_0 ?_
  refine ev_iload_n rfl hC d_Day_kind_1 ?_
  refine cv_Day1 hC d_Day_kind_2 (c_Day_noOne ) mi_Day_noOne ml_Day_108 im_Day_noOne se_Day_noOne rfl ⟨Nat.le_of_ble_eq_true rfl, Nat.le_of_ble_eq_true rfl⟩ ⟨Nat.le_of_ble_eq_true rfl, Nat.le_of_ble_eq_true rfl⟩ rfl rfl (Nat.le_of_ble_eq_true rfl)  ?_
  refine eb_ne 18 hC d_Day_kind_5 rfl (fun h_5 => ?_) (fun h_5 => ?_)
  · refine ev_aload_n rfl hC d_Day_kind_18 ?_
    refine ev_ldc kc_Day_55 hC d_Day_kind_19 ?_
    refine cv_Day1 hC d_Day_kind_21 (c_Day_refuse (k := 0) (by omega) (by decide +kernel)) mi_Day_refuse ml_Day_56 im_Day_refuse se_Day_refuse rfl ⟨Nat.le_of_ble_eq_true rfl, Nat.le_of_ble_eq_true rfl⟩ ⟨Nat.le_of_ble_eq_true rfl, Nat.le_of_ble_eq_true rfl⟩ rfl rfl (Nat.le_of_ble_eq_true rfl)  ?_
    exact ev_iret hC hR d_Day_kind_24 rfl (by simp only [D_kind, D_noOne, bad, h_5, if_true, if_false, cond_true, cond_false, decide_true, decide_false, Bool.not_true, Bool.not_false, Bool.or_true, Bool.true_or, Bool.or_false, Bool.false_or, Bool.and_true, Bool.and_false, Bool.true_and, Bool.false_and, Bool.or_self, Bool.and_self, eq_self] <;> first | rfl | (rfl)) (by simp only [D_kind, D_noOne, bad, h_5, if_true, if_false, cond_true, cond_false, decide_true, decide_false, Bool.not_true, Bool.not_false, Bool.or_true, Bool.true_or, Bool.or_false, Bool.false_or, Bool.and_true, Bool.and_false, Bool.true_and, Bool.false_and, Bool.or_self, Bool.and_self, eq_self] <;> first | rfl | (rfl))
  · refine ev_iload_n rfl hC d_Day_kind_8 ?_
    refine ev_iconst (v := 0) rfl hC d_Day_kind_9 ?_
    refine ev_bipush (v := 72) rfl hC d_Day_kind_10 ?_
    refine cs_1 hC d_Day_kind_12 (c_Day_outside ) mi_Day_outside ml_Day_51 sm_Day_outside ⟨Nat.le_of_ble_eq_true rfl, Nat.le_of_ble_eq_true rfl⟩ ⟨Nat.le_of_ble_eq_true rfl, Nat.le_of_ble_eq_true rfl⟩ rfl rfl (Nat.le_of_ble_eq_true rfl) ?_
    refine eb_eq 25 hC d_Day_kind_15 rfl (fun h_15 => ?_) (fun h_15 => ?_)
    · obtain ⟨i, hi, rfl⟩ := out_ix hc hn h_5
      have ci : (nI i).toNatClampNeg = i := nI_clamp (by omega)
      obtain ⟨n1, hn1, rfl⟩ := out_nat (n := 72) (by decide) h_15
      have cn : (nI n1).toNatClampNeg = n1 := nI_clamp (by omega)
      refine ev_aload_n rfl hC d_Day_kind_25 ?_
      refine gv_Day_best hC d_Day_kind_26 fl_Day_29  ?_
      refine ev_iconst (v := -1) rfl hC d_Day_kind_29 ?_
      refine cv_Best0 hC d_Day_kind_30 (c_Best_begin ) mi_Best_begin ml_Day_205 im_Best_begin se_Best_begin rfl ⟨Nat.le_of_ble_eq_true rfl, Nat.le_of_ble_eq_true rfl⟩ ⟨Nat.le_of_ble_eq_true rfl, Nat.le_of_ble_eq_true rfl⟩ rfl rfl (Nat.le_of_ble_eq_true rfl)  ?_
      refine ev_iconst (v := nI 0) rfl hC d_Day_kind_33 ?_
      refine ev_istore_n (by decide) hC d_Day_kind_34 ?_
      refine lp_Day_kind (by omega) (by omega) (np := np) (ne := ne) (q := M.1 0) ⟨hc, hn, hc2, hn2, hmet, hkd, hkn⟩ hC hR 6 0 _ (by omega) (by simp only [mI]; rw [wr_n (by decide)]) ?_
      simp only [D_kind, D_noOne, zKind, h_5, h_15, ix, ci, cn, if_true, if_false, cond_true, cond_false, decide_true, decide_false, Bool.not_true, Bool.not_false, Bool.or_true, Bool.true_or, Bool.or_false, Bool.false_or, Bool.and_true, Bool.and_false, Bool.true_and, Bool.false_and, Bool.or_self, Bool.and_self, eq_self]
      simp only [mI, wr_s, wr_n (show (1 : Nat) ≠ 3 by decide)]
      refine ⟨rfl, ?_⟩
      rw [show fin3 (wr M.1 3 (upd (upd (M.1 3) 1 (-1000000004)) 2 (-1)), M.2) = fin3 (mI (mI M 1 (M.1 1)) 3 (upd (upd (M.1 3) 1 (-1000000004)) 2 (-1))) by simp only [mI, wr_id], fin3_13]
      rfl
    · refine ev_aload_n rfl hC d_Day_kind_18 ?_
      refine ev_ldc kc_Day_55 hC d_Day_kind_19 ?_
      refine cv_Day1 hC d_Day_kind_21 (c_Day_refuse (k := 0) (by omega) (by decide +kernel)) mi_Day_refuse ml_Day_56 im_Day_refuse se_Day_refuse rfl ⟨Nat.le_of_ble_eq_true rfl, Nat.le_of_ble_eq_true rfl⟩ ⟨Nat.le_of_ble_eq_true rfl, Nat.le_of_ble_eq_true rfl⟩ rfl rfl (Nat.le_of_ble_eq_true rfl)  ?_
      exact ev_iret hC hR d_Day_kind_24 rfl (by simp only [D_kind, D_noOne, bad, h_5, h_15, if_true, if_false, cond_true, cond_false, decide_true, decide_false, Bool.not_true, Bool.not_false, Bool.or_true, Bool.true_or, Bool.or_false, Bool.false_or, Bool.and_true, Bool.and_false, Bool.true_and, Bool.false_and, Bool.or_self, Bool.and_self, eq_self] <;> first | rfl | (rfl)) (by simp only [D_kind, D_noOne, bad, h_5, h_15, if_true, if_false, cond_true, cond_false, decide_true, decide_false, Bool.not_true, Bool.not_false, Bool.or_true, Bool.true_or, Bool.or_false, Bool.false_or, Bool.and_true, Bool.and_false, Bool.true_and, Bool.false_and, Bool.or_self, Bool.and_self, eq_self] <;> first | rfl | (rfl))

set_option maxHeartbeats 4000000 in
set_option maxRecDepth 10000 in
theorem lp_Day_seek2 {G : ex_G} {C : ex_C} {ee : List va_E} {np ne j h g k : Nat} {q : Nat → Int32} (hj : j < 8) (hh : h < 2 ^ 30) (hg : g < 24) (w : WF q np ne)  (hK : ∀ M : ex_M, M.1 0 = q → ee = ce G (fin3 M (lpB np ne np h (fun _ => false) (muC j) (fun t => t (28 + 7 * j + 2)) q (24 * k) (24 * (g + 1)) (M.1 1, M.1 3))) → Ev G C Y_Day_seekClocks 10 [some (.ref (ex_b G + 0)), some (.int (nI j)), some (.int (nI h)), some (.int (nI (g + 1)))] [] 0 0 (ce G M)) (hC : Cx G C Y_Day_seekClocks { frames := 5, cells := 0, slots := 0, locals := 115 }) (hR : Cr G C Y_Day_seekClocks 0 0 none ee) :
    ∀ (m i : Nat) (M : ex_M), i + m = 24 → M.1 0 = q → ee = ce G (fin3 M (lpB np ne np h (fun _ => false) (muC j) (fun t => t (28 + 7 * j + 2)) q (m + 24 * k) (24 * g + i) (M.1 1, M.1 3))) → Ev G C Y_Day_seekClocks 19 [some (.ref (ex_b G + 0)), some (.int (nI j)), some (.int (nI h)), some (.int (nI g)), some (.int (nI i))] [] 0 0 (ce G (M)) := by
  intro m
  induction m with
  | zero =>
    intro i M hm hc he
    refine ev_iload rfl hC d_Day_seekClocks_19 ?_
    refine ev_bipush (v := 23) rfl hC d_Day_seekClocks_21 ?_
    refine ev_icmp_gt 74 hC d_Day_seekClocks_23 rfl (fun _ => ?_) (fun h => absurd (by rw [show (23 : Int32) = nI 23 from rfl]; exact nI_lt (by omega) (by omega)) h)
    refine ev_iinc rfl (by decide) (nI_1 _) hC d_Day_seekClocks_74 ?_
    refine ev_goto 10 hC d_Day_seekClocks_77 rfl ?_
    refine Ev.take 4 ?_
    exact hK M hc (by rw [he, show 0 + 24 * k = 24 * k by omega, show 24 * g + i = 24 * (g + 1) by omega])
  | succ m ih =>
    intro i M hm hc he
    obtain ⟨wc, hn, wc2, hn2, -, -, -⟩ := id w
    refine ev_iload rfl hC d_Day_seekClocks_19 ?_
    refine ev_bipush (v := 23) rfl hC d_Day_seekClocks_21 ?_
    refine ev_icmp_gt 74 hC d_Day_seekClocks_23 rfl (fun h => absurd h (by rw [show (23 : Int32) = nI 23 from rfl]; exact nI_nlt (by omega) (by omega))) (fun _ => ?_)
    refine ev_aload_n rfl hC d_Day_seekClocks_26 ?_
    refine ev_iload_n rfl hC d_Day_seekClocks_27 ?_
    refine ev_iload_n rfl hC d_Day_seekClocks_28 ?_
    refine ev_iload rfl hC d_Day_seekClocks_29 ?_
    refine cv_Day0 hC d_Day_seekClocks_31 (c_Day_startTrialByClocks hj (by rw [hc]; exact w)) mi_Day_startTrialByClocks ml_Day_284 im_Day_startTrialByClocks se_Day_startTrialByClocks rfl ⟨Nat.le_of_ble_eq_true rfl, Nat.le_of_ble_eq_true rfl⟩ ⟨Nat.le_of_ble_eq_true rfl, Nat.le_of_ble_eq_true rfl⟩ rfl rfl (Nat.le_of_ble_eq_true rfl)  ?_
    refine ev_aload_n rfl hC d_Day_seekClocks_34 ?_
    refine gv_Day_trial hC d_Day_seekClocks_35 fl_Day_16  ?_
    refine ev_iload_n rfl hC d_Day_seekClocks_38 ?_
    refine cv_River0 hC d_Day_seekClocks_39 (c_River_passHours hn hn2 (by decide) hh (by simp only [tro, mI, wr_s]; rw [ud_n (by omega), ud_n (by omega), becR_lo (by omega), hc]; exact wc) (by simp only [tro, mI, wr_s]; rw [ud_n (by omega), ud_n (by omega), becR_lo (by omega), hc]; exact wc2)) mi_River_passHours ml_Day_165 im_River_passHours se_River_passHours rfl ⟨Nat.le_of_ble_eq_true rfl, Nat.le_of_ble_eq_true rfl⟩ ⟨Nat.le_of_ble_eq_true rfl, Nat.le_of_ble_eq_true rfl⟩ rfl rfl (Nat.le_of_ble_eq_true rfl) (by first | assumption | decide) ?_
    refine ev_aload_n rfl hC d_Day_seekClocks_42 ?_
    refine gv_Day_best hC d_Day_seekClocks_43 fl_Day_29  ?_
    refine ev_bipush (v := 24) rfl hC d_Day_seekClocks_46 ?_
    refine ev_iload_n rfl hC d_Day_seekClocks_48 ?_
    refine ev_imul hC d_Day_seekClocks_49 ?_
    refine ev_iload rfl hC d_Day_seekClocks_50 ?_
    refine ev_iadd hC d_Day_seekClocks_52 ?_
    refine ev_aload_n rfl hC d_Day_seekClocks_53 ?_
    refine gv_Day_trial hC d_Day_seekClocks_54 fl_Day_16  ?_
    refine gn_River_people hC d_Day_seekClocks_57 fl_Day_111 (by first | assumption | decide) ?_
    refine ev_iload_n rfl hC d_Day_seekClocks_60 ?_
    refine gr_people hC d_Day_seekClocks_61 (by first | assumption | decide) (by first | assumption | omega) ?_
    refine gn_One_purse hC d_Day_seekClocks_62 fl_Day_123 (by first | assumption | decide) (by first | assumption | omega) ?_
    refine cv_Best0 hC d_Day_seekClocks_65 (c_Best_offer2) mi_Best_offer ml_Day_211 im_Best_offer se_Best_offer rfl ⟨Nat.le_of_ble_eq_true rfl, Nat.le_of_ble_eq_true rfl⟩ ⟨Nat.le_of_ble_eq_true rfl, Nat.le_of_ble_eq_true rfl⟩ rfl rfl (Nat.le_of_ble_eq_true rfl)  ?_
    refine ev_iinc rfl (by decide) (nI_1 _) hC d_Day_seekClocks_68 ?_
    refine ev_goto 19 hC d_Day_seekClocks_71 rfl ?_
    refine ih (i + 1) _ (by omega) (by simp only [tro, mI]; rw [wr_n (by decide), wr_n (by decide), wr_n (by decide)]; exact hc) ?_
    rw [he, show m + 1 + 24 * k = m + 24 * k + 1 by omega, lpB]
    simp only [tro, mI, wr_wr, wr_s, wr_n (show (3 : Nat) ≠ 1 by decide), wr_n (show (1 : Nat) ≠ 3 by decide), cond_false, hc, show (24 : Int32) * nI g = nI (24 * g) from pk_mul 24 g, nI_add]
    rw [show 24 * g + i + 1 = 24 * g + (i + 1) by omega]
    refine Eq.trans ?_ (congrArg (ce G) (fin3_13 M _ _ _)).symm
    rw [muC, show (24 * g + i) / 24 = g by omega, show (24 * g + i) % 24 = i by omega]

set_option maxHeartbeats 4000000 in
set_option maxRecDepth 10000 in
theorem lp_Day_seek1 {G : ex_G} {C : ex_C} {ee : List va_E} {np ne j h : Nat} {q : Nat → Int32} (hj : j < 8) (hh : h < 2 ^ 30) (w : WF q np ne) (hC : Cx G C Y_Day_seekClocks { frames := 5, cells := 0, slots := 0, locals := 115 }) (hR : Cr G C Y_Day_seekClocks 0 0 none ee) :
    ∀ (m i : Nat) (M : ex_M), i + m = 24 → M.1 0 = q → ee = ce G (fin3 M (lpB np ne np h (fun _ => false) (muC j) (fun t => t (28 + 7 * j + 2)) q (24 * m) (24 * i) (M.1 1, M.1 3))) → Ev G C Y_Day_seekClocks 10 [some (.ref (ex_b G + 0)), some (.int (nI j)), some (.int (nI h)), some (.int (nI i))] [] 0 0 (ce G (M)) := by
  intro m
  induction m with
  | zero =>
    intro i M hm hc he
    refine ev_iload_n rfl hC d_Day_seekClocks_10 ?_
    refine ev_bipush (v := 23) rfl hC d_Day_seekClocks_11 ?_
    refine ev_icmp_gt 80 hC d_Day_seekClocks_13 rfl (fun _ => ?_) (fun h => absurd (by rw [show (23 : Int32) = nI 23 from rfl]; exact nI_lt (by omega) (by omega)) h)
    exact ev_vret hC hR d_Day_seekClocks_80 rfl rfl (by rw [he, show 24 * 0 = 0 from rfl, lpB, fin3_id])
  | succ m ih =>
    intro i M hm hc he
    skip
    refine ev_iload_n rfl hC d_Day_seekClocks_10 ?_
    refine ev_bipush (v := 23) rfl hC d_Day_seekClocks_11 ?_
    refine ev_icmp_gt 80 hC d_Day_seekClocks_13 rfl (fun h => absurd h (by rw [show (23 : Int32) = nI 23 from rfl]; exact nI_nlt (by omega) (by omega))) (fun _ => ?_)
    refine ev_iconst (v := nI 0) rfl hC d_Day_seekClocks_16 ?_
    refine ev_istore (by decide) hC d_Day_seekClocks_17 ?_
    exact lp_Day_seek2 (g := i) (k := m) hj hh (by omega) w (fun M2 h2 he2 => ih (i + 1) M2 (by omega) h2 he2) hC hR 24 0 M (by omega) hc (by rw [he, show 24 * (m + 1) = 24 + 24 * m by omega, show 24 * i + 0 = 24 * i by omega])

set_option maxHeartbeats 2000000 in
set_option maxRecDepth 10000 in
theorem c_Day_seekClocks {G : ex_G} {M : ex_M} {np ne i h : Nat} (hi : i < 8) (hh : h < 2 ^ 30) (w : WF (M.1 0) np ne) : Con G Y_Day_seekClocks 5 115 0 0 [.ref (ex_b G + 0), .int (nI i), .int (nI h)] (ce G M) (none) (ce G (fin3 M (lpB np ne np h (fun _ => false) (muC i) (fun t => t (28 + 7 * i + 2)) (M.1 0) 576 0 (M.1 1, bst0 (M.1 3) (-1))))) := by
  refine Con.ofF (plainFor_of_name (by decide +kernel)) (Nat.le_of_ble_eq_true rfl) (fun C hC hR => ?_)
  show Ev G C Y_Day_seekClocks 0 [some (.ref (ex_b G + 0)), some (.int (nI i)), some (.int (nI h))] [] 0 0 (ce G M)
  refine ev_aload_n rfl hC d_Day_seekClocks_0 ?_
  refine gv_Day_best hC d_Day_seekClocks_1 fl_Day_29  ?_
  refine ev_iconst (v := -1) rfl hC d_Day_seekClocks_4 ?_
  refine cv_Best0 hC d_Day_seekClocks_5 (c_Best_begin ) mi_Best_begin ml_Day_205 im_Best_begin se_Best_begin rfl ⟨Nat.le_of_ble_eq_true rfl, Nat.le_of_ble_eq_true rfl⟩ ⟨Nat.le_of_ble_eq_true rfl, Nat.le_of_ble_eq_true rfl⟩ rfl rfl (Nat.le_of_ble_eq_true rfl)  ?_
  refine ev_iconst (v := nI 0) rfl hC d_Day_seekClocks_8 ?_
  refine ev_istore_n (by decide) hC d_Day_seekClocks_9 ?_
  refine lp_Day_seek1 (np := np) (ne := ne) (q := M.1 0) hi hh w hC hR 24 0 _ (by omega) (by simp only [mI]; rw [wr_n (by decide)]) ?_
  simp only [mI, wr_s, wr_n (show (1 : Nat) ≠ 3 by decide)]
  rw [show fin3 (wr M.1 3 (upd (upd (M.1 3) 1 (-1000000004)) 2 (-1)), M.2) = fin3 (mI (mI M 1 (M.1 1)) 3 (upd (upd (M.1 3) 1 (-1000000004)) 2 (-1))) by simp only [mI, wr_id], fin3_13]
  rfl

set_option maxHeartbeats 2000000 in
set_option maxRecDepth 10000 in
theorem c_Day_clocks {G : ex_G} {M : ex_M} {np ne : Nat} {p n : Int32} (w : WF (M.1 0) np ne) : Con G Y_Day_clocks 6 139 0 0 [.ref (ex_b G + 0), .int p, .int n] (ce G M) (some (.int (D_clocks M np ne p n).1)) (ce G ((D_clocks M np ne p n).2)) := by
  refine Con.ofF (plainFor_of_name (by decide +kernel)) (Nat.le_of_ble_eq_true rfl) (fun C hC hR => ?_)
  show Ev G C Y_Day_clocks 0 [some (.ref (ex_b G + 0)), some (.int p), some (.int n)] [] 0 0 (ce G M)
  obtain ⟨hc, hn, hc2, hn2, hmet, hkd, hkn⟩ := w
  refine ev_aload_n rfl hC d_Day_clocks_0 ?_
  refine ev_iload_n rfl hC d_Day_clocks_1 ?_
  refine cv_Day1 hC d_Day_clocks_2 (c_Day_noOne ) mi_Day_noOne ml_Day_108 im_Day_noOne se_Day_noOne rfl ⟨Nat.le_of_ble_eq_true rfl, Nat.le_of_ble_eq_true rfl⟩ ⟨Nat.le_of_ble_eq_true rfl, Nat.le_of_ble_eq_true rfl⟩ rfl rfl (Nat.le_of_ble_eq_true rfl)  ?_
  refine eb_ne 18 hC d_Day_clocks_5 rfl (fun h_5 => ?_) (fun h_5 => ?_)
  · refine ev_aload_n rfl hC d_Day_clocks_18 ?_
    refine ev_ldc kc_Day_55 hC d_Day_clocks_19 ?_
    refine cv_Day1 hC d_Day_clocks_21 (c_Day_refuse (k := 0) (by omega) (by decide +kernel)) mi_Day_refuse ml_Day_56 im_Day_refuse se_Day_refuse rfl ⟨Nat.le_of_ble_eq_true rfl, Nat.le_of_ble_eq_true rfl⟩ ⟨Nat.le_of_ble_eq_true rfl, Nat.le_of_ble_eq_true rfl⟩ rfl rfl (Nat.le_of_ble_eq_true rfl)  ?_
    exact ev_iret hC hR d_Day_clocks_24 rfl (by simp only [D_clocks, D_noOne, bad, h_5, if_true, if_false, cond_true, cond_false, decide_true, decide_false, Bool.not_true, Bool.not_false, Bool.or_true, Bool.true_or, Bool.or_false, Bool.false_or, Bool.and_true, Bool.and_false, Bool.true_and, Bool.false_and, Bool.or_self, Bool.and_self, eq_self] <;> first | rfl | (rfl)) (by simp only [D_clocks, D_noOne, bad, h_5, if_true, if_false, cond_true, cond_false, decide_true, decide_false, Bool.not_true, Bool.not_false, Bool.or_true, Bool.true_or, Bool.or_false, Bool.false_or, Bool.and_true, Bool.and_false, Bool.true_and, Bool.false_and, Bool.or_self, Bool.and_self, eq_self] <;> first | rfl | (rfl))
  · refine ev_iload_n rfl hC d_Day_clocks_8 ?_
    refine ev_iconst (v := 0) rfl hC d_Day_clocks_9 ?_
    refine ev_bipush (v := 48) rfl hC d_Day_clocks_10 ?_
    refine cs_1 hC d_Day_clocks_12 (c_Day_outside ) mi_Day_outside ml_Day_51 sm_Day_outside ⟨Nat.le_of_ble_eq_true rfl, Nat.le_of_ble_eq_true rfl⟩ ⟨Nat.le_of_ble_eq_true rfl, Nat.le_of_ble_eq_true rfl⟩ rfl rfl (Nat.le_of_ble_eq_true rfl) ?_
    refine eb_eq 25 hC d_Day_clocks_15 rfl (fun h_15 => ?_) (fun h_15 => ?_)
    · obtain ⟨i, hi, rfl⟩ := out_ix hc hn h_5
      have ci : (nI i).toNatClampNeg = i := nI_clamp (by omega)
      obtain ⟨n1, hn1, rfl⟩ := out_nat (n := 48) (by decide) h_15
      have cn : (nI n1).toNatClampNeg = n1 := nI_clamp (by omega)
      refine ev_aload_n rfl hC d_Day_clocks_25 ?_
      refine ev_iload_n rfl hC d_Day_clocks_26 ?_
      refine ev_iload_n rfl hC d_Day_clocks_27 ?_
      refine cv_Day0 hC d_Day_clocks_28 (c_Day_seekClocks (by omega) (by omega) ⟨hc, hn, hc2, hn2, hmet, hkd, hkn⟩) mi_Day_seekClocks ml_Day_194 im_Day_seekClocks se_Day_seekClocks rfl ⟨Nat.le_of_ble_eq_true rfl, Nat.le_of_ble_eq_true rfl⟩ ⟨Nat.le_of_ble_eq_true rfl, Nat.le_of_ble_eq_true rfl⟩ rfl rfl (Nat.le_of_ble_eq_true rfl)  ?_
      refine ev_aload_n rfl hC d_Day_clocks_31 ?_
      refine gv_Day_best hC d_Day_clocks_32 fl_Day_29  ?_
      refine gn_Best_choice hC d_Day_clocks_35 fl_Day_198  ?_
      exact ev_iret hC hR d_Day_clocks_38 rfl (by simp only [D_clocks, D_noOne, bad, h_5, h_15, ix, ci, cn, zClk, fin3, mI, wr_s, if_true, if_false, cond_true, cond_false, decide_true, decide_false, Bool.not_true, Bool.not_false, Bool.or_true, Bool.true_or, Bool.or_false, Bool.false_or, Bool.and_true, Bool.and_false, Bool.true_and, Bool.false_and, Bool.or_self, Bool.and_self, eq_self] <;> first | rfl | (rfl)) (by simp only [D_clocks, D_noOne, bad, h_5, h_15, ix, ci, cn, zClk, fin3, mI, wr_s, if_true, if_false, cond_true, cond_false, decide_true, decide_false, Bool.not_true, Bool.not_false, Bool.or_true, Bool.true_or, Bool.or_false, Bool.false_or, Bool.and_true, Bool.and_false, Bool.true_and, Bool.false_and, Bool.or_self, Bool.and_self, eq_self] <;> first | rfl | (rfl))
    · refine ev_aload_n rfl hC d_Day_clocks_18 ?_
      refine ev_ldc kc_Day_55 hC d_Day_clocks_19 ?_
      refine cv_Day1 hC d_Day_clocks_21 (c_Day_refuse (k := 0) (by omega) (by decide +kernel)) mi_Day_refuse ml_Day_56 im_Day_refuse se_Day_refuse rfl ⟨Nat.le_of_ble_eq_true rfl, Nat.le_of_ble_eq_true rfl⟩ ⟨Nat.le_of_ble_eq_true rfl, Nat.le_of_ble_eq_true rfl⟩ rfl rfl (Nat.le_of_ble_eq_true rfl)  ?_
      exact ev_iret hC hR d_Day_clocks_24 rfl (by simp only [D_clocks, D_noOne, bad, h_5, h_15, if_true, if_false, cond_true, cond_false, decide_true, decide_false, Bool.not_true, Bool.not_false, Bool.or_true, Bool.true_or, Bool.or_false, Bool.false_or, Bool.and_true, Bool.and_false, Bool.true_and, Bool.false_and, Bool.or_self, Bool.and_self, eq_self] <;> first | rfl | (rfl)) (by simp only [D_clocks, D_noOne, bad, h_5, h_15, if_true, if_false, cond_true, cond_false, decide_true, decide_false, Bool.not_true, Bool.not_false, Bool.or_true, Bool.true_or, Bool.or_false, Bool.false_or, Bool.and_true, Bool.and_false, Bool.true_and, Bool.false_and, Bool.or_self, Bool.and_self, eq_self] <;> first | rfl | (rfl))

set_option maxHeartbeats 2000000 in
set_option maxRecDepth 10000 in
theorem c_Day_rich {G : ex_G} {M : ex_M} {np ne : Nat} {p n : Int32} (w : WF (M.1 0) np ne) : Con G Y_Day_rich 6 139 0 0 [.ref (ex_b G + 0), .int p, .int n] (ce G M) (some (.int (D_rich M np ne p n).1)) (ce G ((D_rich M np ne p n).2)) := by
  refine Con.ofF (plainFor_of_name (by decide +kernel)) (Nat.le_of_ble_eq_true rfl) (fun C hC hR => ?_)
  show Ev G C Y_Day_rich 0 [some (.ref (ex_b G + 0)), some (.int p), some (.int n)] [] 0 0 (ce G M)
  obtain ⟨hc, hn, hc2, hn2, hmet, hkd, hkn⟩ := w
  refine ev_aload_n rfl hC d_Day_rich_0 ?_
  refine ev_iload_n rfl hC d_Day_rich_1 ?_
  refine cv_Day1 hC d_Day_rich_2 (c_Day_noOne ) mi_Day_noOne ml_Day_108 im_Day_noOne se_Day_noOne rfl ⟨Nat.le_of_ble_eq_true rfl, Nat.le_of_ble_eq_true rfl⟩ ⟨Nat.le_of_ble_eq_true rfl, Nat.le_of_ble_eq_true rfl⟩ rfl rfl (Nat.le_of_ble_eq_true rfl)  ?_
  refine eb_ne 18 hC d_Day_rich_5 rfl (fun h_5 => ?_) (fun h_5 => ?_)
  · refine ev_aload_n rfl hC d_Day_rich_18 ?_
    refine ev_ldc kc_Day_55 hC d_Day_rich_19 ?_
    refine cv_Day1 hC d_Day_rich_21 (c_Day_refuse (k := 0) (by omega) (by decide +kernel)) mi_Day_refuse ml_Day_56 im_Day_refuse se_Day_refuse rfl ⟨Nat.le_of_ble_eq_true rfl, Nat.le_of_ble_eq_true rfl⟩ ⟨Nat.le_of_ble_eq_true rfl, Nat.le_of_ble_eq_true rfl⟩ rfl rfl (Nat.le_of_ble_eq_true rfl)  ?_
    exact ev_iret hC hR d_Day_rich_24 rfl (by simp only [D_rich, D_noOne, bad, h_5, if_true, if_false, cond_true, cond_false, decide_true, decide_false, Bool.not_true, Bool.not_false, Bool.or_true, Bool.true_or, Bool.or_false, Bool.false_or, Bool.and_true, Bool.and_false, Bool.true_and, Bool.false_and, Bool.or_self, Bool.and_self, eq_self] <;> first | rfl | (rfl)) (by simp only [D_rich, D_noOne, bad, h_5, if_true, if_false, cond_true, cond_false, decide_true, decide_false, Bool.not_true, Bool.not_false, Bool.or_true, Bool.true_or, Bool.or_false, Bool.false_or, Bool.and_true, Bool.and_false, Bool.true_and, Bool.false_and, Bool.or_self, Bool.and_self, eq_self] <;> first | rfl | (rfl))
  · refine ev_iload_n rfl hC d_Day_rich_8 ?_
    refine ev_iconst (v := 0) rfl hC d_Day_rich_9 ?_
    refine ev_bipush (v := 48) rfl hC d_Day_rich_10 ?_
    refine cs_1 hC d_Day_rich_12 (c_Day_outside ) mi_Day_outside ml_Day_51 sm_Day_outside ⟨Nat.le_of_ble_eq_true rfl, Nat.le_of_ble_eq_true rfl⟩ ⟨Nat.le_of_ble_eq_true rfl, Nat.le_of_ble_eq_true rfl⟩ rfl rfl (Nat.le_of_ble_eq_true rfl) ?_
    refine eb_eq 25 hC d_Day_rich_15 rfl (fun h_15 => ?_) (fun h_15 => ?_)
    · obtain ⟨i, hi, rfl⟩ := out_ix hc hn h_5
      have ci : (nI i).toNatClampNeg = i := nI_clamp (by omega)
      obtain ⟨n1, hn1, rfl⟩ := out_nat (n := 48) (by decide) h_15
      have cn : (nI n1).toNatClampNeg = n1 := nI_clamp (by omega)
      refine ev_aload_n rfl hC d_Day_rich_25 ?_
      refine ev_iload_n rfl hC d_Day_rich_26 ?_
      refine ev_iload_n rfl hC d_Day_rich_27 ?_
      refine cv_Day0 hC d_Day_rich_28 (c_Day_seekClocks (by omega) (by omega) ⟨hc, hn, hc2, hn2, hmet, hkd, hkn⟩) mi_Day_seekClocks ml_Day_194 im_Day_seekClocks se_Day_seekClocks rfl ⟨Nat.le_of_ble_eq_true rfl, Nat.le_of_ble_eq_true rfl⟩ ⟨Nat.le_of_ble_eq_true rfl, Nat.le_of_ble_eq_true rfl⟩ rfl rfl (Nat.le_of_ble_eq_true rfl)  ?_
      refine ev_aload_n rfl hC d_Day_rich_31 ?_
      refine gv_Day_best hC d_Day_rich_32 fl_Day_29  ?_
      refine gn_Best_amount hC d_Day_rich_35 fl_Day_201  ?_
      exact ev_iret hC hR d_Day_rich_38 rfl (by simp only [D_rich, D_noOne, bad, h_5, h_15, ix, ci, cn, zClk, fin3, mI, wr_s, if_true, if_false, cond_true, cond_false, decide_true, decide_false, Bool.not_true, Bool.not_false, Bool.or_true, Bool.true_or, Bool.or_false, Bool.false_or, Bool.and_true, Bool.and_false, Bool.true_and, Bool.false_and, Bool.or_self, Bool.and_self, eq_self] <;> first | rfl | (rfl)) (by simp only [D_rich, D_noOne, bad, h_5, h_15, ix, ci, cn, zClk, fin3, mI, wr_s, if_true, if_false, cond_true, cond_false, decide_true, decide_false, Bool.not_true, Bool.not_false, Bool.or_true, Bool.true_or, Bool.or_false, Bool.false_or, Bool.and_true, Bool.and_false, Bool.true_and, Bool.false_and, Bool.or_self, Bool.and_self, eq_self] <;> first | rfl | (rfl))
    · refine ev_aload_n rfl hC d_Day_rich_18 ?_
      refine ev_ldc kc_Day_55 hC d_Day_rich_19 ?_
      refine cv_Day1 hC d_Day_rich_21 (c_Day_refuse (k := 0) (by omega) (by decide +kernel)) mi_Day_refuse ml_Day_56 im_Day_refuse se_Day_refuse rfl ⟨Nat.le_of_ble_eq_true rfl, Nat.le_of_ble_eq_true rfl⟩ ⟨Nat.le_of_ble_eq_true rfl, Nat.le_of_ble_eq_true rfl⟩ rfl rfl (Nat.le_of_ble_eq_true rfl)  ?_
      exact ev_iret hC hR d_Day_rich_24 rfl (by simp only [D_rich, D_noOne, bad, h_5, h_15, if_true, if_false, cond_true, cond_false, decide_true, decide_false, Bool.not_true, Bool.not_false, Bool.or_true, Bool.true_or, Bool.or_false, Bool.false_or, Bool.and_true, Bool.and_false, Bool.true_and, Bool.false_and, Bool.or_self, Bool.and_self, eq_self] <;> first | rfl | (rfl)) (by simp only [D_rich, D_noOne, bad, h_5, h_15, if_true, if_false, cond_true, cond_false, decide_true, decide_false, Bool.not_true, Bool.not_false, Bool.or_true, Bool.true_or, Bool.or_false, Bool.false_or, Bool.and_true, Bool.and_false, Bool.true_and, Bool.false_and, Bool.or_self, Bool.and_self, eq_self] <;> first | rfl | (rfl))

set_option maxHeartbeats 4000000 in
set_option maxRecDepth 10000 in
theorem lp_Day_bears {G : ex_G} {C : ex_C} {rr : Option Value} {ee : List va_E} {np ne h : Nat} {v : Int32} {q : Nat → Int32} (hh : h < 2 ^ 30) (w : WF q np ne) (hC : Cx G C Y_Day_bears { frames := 5, cells := 0, slots := 0, locals := 115 }) (hR : Cr G C Y_Day_bears 0 0 rr ee) :
    ∀ (m : Nat) (M : ex_M), m ≤ 100 → M.1 0 = q → rr = some (.int (finS M (brs np ne h v q m (M.1 1))).1) ∧ ee = ce G (finS M (brs np ne h v q m (M.1 1))).2 → Ev G C Y_Day_bears 30 [some (.ref (ex_b G + 0)), some (.int v), some (.int (nI h)), some (.int (nI m - 1))] [] 0 0 (ce G M) := by
  obtain ⟨wc, hn, wc2, hn2, -, -, -⟩ := id w
  intro m
  induction m with
  | zero =>
    intro M hm hc he
    refine ev_iload_n rfl hC d_Day_bears_30 ?_
    refine ev_if_lt 73 hC d_Day_bears_31 rfl (fun _ => ?_) (fun h => absurd (by decide) h)
    refine ev_aload_n rfl hC d_Day_bears_73 ?_
    refine ev_ldc kc_Day_190 hC d_Day_bears_74 ?_
    refine cv_Day1 hC d_Day_bears_76 (c_Day_refuse (k := 3) (by omega) (by decide +kernel)) mi_Day_refuse ml_Day_56 im_Day_refuse se_Day_refuse rfl ⟨Nat.le_of_ble_eq_true rfl, Nat.le_of_ble_eq_true rfl⟩ ⟨Nat.le_of_ble_eq_true rfl, Nat.le_of_ble_eq_true rfl⟩ rfl rfl (Nat.le_of_ble_eq_true rfl)  ?_
    exact ev_iret hC hR d_Day_bears_79 rfl (by rw [he.1, brs]; rfl) (by rw [he.2, brs]; simp only [finS, bad, mI, mJ, wr_id])
  | succ m ih =>
    intro M hm hc he
    rw [nI_pred m]
    refine ev_iload_n rfl hC d_Day_bears_30 ?_
    refine ev_if_lt 73 hC d_Day_bears_31 rfl (fun h => absurd h (nI_pos (by omega))) (fun _ => ?_)
    refine ev_aload_n rfl hC d_Day_bears_34 ?_
    refine cv_Day0 hC d_Day_bears_35 (c_Day_startTrial (by rw [hc]; exact w)) mi_Day_startTrial ml_Day_181 im_Day_startTrial se_Day_startTrial rfl ⟨Nat.le_of_ble_eq_true rfl, Nat.le_of_ble_eq_true rfl⟩ ⟨Nat.le_of_ble_eq_true rfl, Nat.le_of_ble_eq_true rfl⟩ rfl rfl (Nat.le_of_ble_eq_true rfl)  ?_
    refine ev_aload_n rfl hC d_Day_bears_38 ?_
    refine gv_Day_trial hC d_Day_bears_39 fl_Day_16  ?_
    refine ev_iload_n rfl hC d_Day_bears_42 ?_
    refine pn_River_toll hC d_Day_bears_43 fl_Day_60 (by first | assumption | decide) ?_
    refine ev_aload_n rfl hC d_Day_bears_46 ?_
    refine gv_Day_trial hC d_Day_bears_47 fl_Day_16  ?_
    refine ev_iload_n rfl hC d_Day_bears_50 ?_
    refine cv_River0 hC d_Day_bears_51 (c_River_passHours hn hn2 (by decide) hh (by simp only [tr0, mI, mJ, wr_s]; rw [ud_n (by omega), becR_lo (by omega), hc]; exact wc) (by simp only [tr0, mI, mJ, wr_s]; rw [ud_n (by omega), becR_lo (by omega), hc]; exact wc2)) mi_River_passHours ml_Day_165 im_River_passHours se_River_passHours rfl ⟨Nat.le_of_ble_eq_true rfl, Nat.le_of_ble_eq_true rfl⟩ ⟨Nat.le_of_ble_eq_true rfl, Nat.le_of_ble_eq_true rfl⟩ rfl rfl (Nat.le_of_ble_eq_true rfl) (by first | assumption | decide) ?_
    refine ev_aload_n rfl hC d_Day_bears_54 ?_
    refine gv_Day_trial hC d_Day_bears_55 fl_Day_16  ?_
    refine cv_River1 hC d_Day_bears_58 (c_River_allPurses hn (by decide) (by simp only [tr0, mI, mJ, wr_wr, wr_s]; rw [hoursC_cnt hn2 (by omega) (by omega), ud_n (by omega), becR_lo (by omega), hc]; exact wc)) mi_River_allPurses ml_Day_168 im_River_allPurses se_River_allPurses rfl ⟨Nat.le_of_ble_eq_true rfl, Nat.le_of_ble_eq_true rfl⟩ ⟨Nat.le_of_ble_eq_true rfl, Nat.le_of_ble_eq_true rfl⟩ rfl rfl (Nat.le_of_ble_eq_true rfl) (by first | assumption | decide) ?_
    refine ev_iload_n rfl hC d_Day_bears_61 ?_
    refine ev_icmp_lt 67 hC d_Day_bears_62 rfl (fun h_62 => ?_) (fun h_62 => ?_)
    · refine ev_iinc rfl (by decide) (rfl) hC d_Day_bears_67 ?_
      refine ev_goto 30 hC d_Day_bears_70 rfl ?_
      simp only [tr0, mI, mJ, wr_wr, wr_s, hc] at h_62
      rw [show nI m + Int32.ofInt (-1) = nI m - 1 by rw [show Int32.ofInt (-1) = -(1 : Int32) by decide, ← Int32.sub_eq_add_neg]]
      refine ih _ (by omega) (by simp only [tr0, mI, mJ]; rw [wr_n (by decide), wr_n (by decide), wr_n (by decide)]; exact hc) ?_
      rw [he.1, he.2, show brs np ne h v q (m + 1) (M.1 1) = brs np ne h v q m (hoursC np ne h (upd (becR (M.1 1) q np ne) 1 (nI m))) by rw [brs, if_pos h_62]]
      simp only [tr0, mI, mJ, wr_wr, wr_s, hc]
      rw [show finS (wr M.1 1 (hoursC np ne h (upd (becR (M.1 1) q np ne) 1 (nI m))), M.2) = finS (mI M 1 (hoursC np ne h (upd (becR (M.1 1) q np ne) 1 (nI m)))) from rfl, finS_mI]
      exact ⟨rfl, rfl⟩
    · refine ev_iload_n rfl hC d_Day_bears_65 ?_
      exact ev_iret hC hR d_Day_bears_66 rfl (by simp only [tr0, mI, mJ, wr_wr, wr_s, hc] at h_62; rw [he.1, show brs np ne h v q (m + 1) (M.1 1) = (some m, (hoursC np ne h (upd (becR (M.1 1) q np ne) 1 (nI m)))) by rw [brs, if_neg h_62]]; rfl) (by simp only [tr0, mI, mJ, wr_wr, wr_s, hc] at h_62; rw [he.2, show brs np ne h v q (m + 1) (M.1 1) = (some m, (hoursC np ne h (upd (becR (M.1 1) q np ne) 1 (nI m)))) by rw [brs, if_neg h_62]]; simp only [finS, tr0, mI, mJ, wr_wr, wr_s, hc])

set_option maxHeartbeats 2000000 in
set_option maxRecDepth 10000 in
theorem c_Day_bears {G : ex_G} {M : ex_M} {np ne : Nat} {v n : Int32} (w : WF (M.1 0) np ne) : Con G Y_Day_bears 5 115 0 0 [.ref (ex_b G + 0), .int v, .int n] (ce G M) (some (.int (D_bears M np ne v n).1)) (ce G ((D_bears M np ne v n).2)) := by
  refine Con.ofF (plainFor_of_name (by decide +kernel)) (Nat.le_of_ble_eq_true rfl) (fun C hC hR => ?_)
  show Ev G C Y_Day_bears 0 [some (.ref (ex_b G + 0)), some (.int v), some (.int n)] [] 0 0 (ce G M)
  obtain ⟨hc, hn, hc2, hn2, hmet, hkd, hkn⟩ := w
  refine ev_iload_n rfl hC d_Day_bears_0 ?_
  refine ev_iconst (v := 0) rfl hC d_Day_bears_1 ?_
  refine ev_ldc kc_Day_204 hC d_Day_bears_2 ?_
  refine cs_1 hC d_Day_bears_4 (c_Day_outside ) mi_Day_outside ml_Day_51 sm_Day_outside ⟨Nat.le_of_ble_eq_true rfl, Nat.le_of_ble_eq_true rfl⟩ ⟨Nat.le_of_ble_eq_true rfl, Nat.le_of_ble_eq_true rfl⟩ rfl rfl (Nat.le_of_ble_eq_true rfl) ?_
  refine eb_ne 20 hC d_Day_bears_7 rfl (fun h_7 => ?_) (fun h_7 => ?_)
  · refine ev_aload_n rfl hC d_Day_bears_20 ?_
    refine ev_ldc kc_Day_55 hC d_Day_bears_21 ?_
    refine cv_Day1 hC d_Day_bears_23 (c_Day_refuse (k := 0) (by omega) (by decide +kernel)) mi_Day_refuse ml_Day_56 im_Day_refuse se_Day_refuse rfl ⟨Nat.le_of_ble_eq_true rfl, Nat.le_of_ble_eq_true rfl⟩ ⟨Nat.le_of_ble_eq_true rfl, Nat.le_of_ble_eq_true rfl⟩ rfl rfl (Nat.le_of_ble_eq_true rfl)  ?_
    exact ev_iret hC hR d_Day_bears_26 rfl (by simp only [D_bears, bad, h_7, if_true, if_false, cond_true, cond_false, decide_true, decide_false, Bool.not_true, Bool.not_false, Bool.or_true, Bool.true_or, Bool.or_false, Bool.false_or, Bool.and_true, Bool.and_false, Bool.true_and, Bool.false_and, Bool.or_self, Bool.and_self, eq_self] <;> first | rfl | (rfl)) (by simp only [D_bears, bad, h_7, if_true, if_false, cond_true, cond_false, decide_true, decide_false, Bool.not_true, Bool.not_false, Bool.or_true, Bool.true_or, Bool.or_false, Bool.false_or, Bool.and_true, Bool.and_false, Bool.true_and, Bool.false_and, Bool.or_self, Bool.and_self, eq_self] <;> first | rfl | (rfl))
  · refine ev_iload_n rfl hC d_Day_bears_10 ?_
    refine ev_iconst (v := 0) rfl hC d_Day_bears_11 ?_
    refine ev_bipush (v := 48) rfl hC d_Day_bears_12 ?_
    refine cs_1 hC d_Day_bears_14 (c_Day_outside ) mi_Day_outside ml_Day_51 sm_Day_outside ⟨Nat.le_of_ble_eq_true rfl, Nat.le_of_ble_eq_true rfl⟩ ⟨Nat.le_of_ble_eq_true rfl, Nat.le_of_ble_eq_true rfl⟩ rfl rfl (Nat.le_of_ble_eq_true rfl) ?_
    refine eb_eq 27 hC d_Day_bears_17 rfl (fun h_17 => ?_) (fun h_17 => ?_)
    · obtain ⟨n1, hn1, rfl⟩ := out_nat (n := 48) (by decide) h_17
      have cn : (nI n1).toNatClampNeg = n1 := nI_clamp (by omega)
      refine ev_bipush (v := 99) rfl hC d_Day_bears_27 ?_
      refine ev_istore_n (by decide) hC d_Day_bears_29 ?_
      refine lp_Day_bears (np := np) (ne := ne) (q := M.1 0) (by omega) ⟨hc, hn, hc2, hn2, hmet, hkd, hkn⟩ hC hR 100 M (by omega) rfl ?_
      simp only [D_bears, h_7, h_17, ix, cn, if_true, if_false, cond_true, cond_false, decide_true, decide_false, Bool.not_true, Bool.not_false, Bool.or_true, Bool.true_or, Bool.or_false, Bool.false_or, Bool.and_true, Bool.and_false, Bool.true_and, Bool.false_and, Bool.or_self, Bool.and_self, eq_self]
      exact ⟨trivial, trivial⟩
    · refine ev_aload_n rfl hC d_Day_bears_20 ?_
      refine ev_ldc kc_Day_55 hC d_Day_bears_21 ?_
      refine cv_Day1 hC d_Day_bears_23 (c_Day_refuse (k := 0) (by omega) (by decide +kernel)) mi_Day_refuse ml_Day_56 im_Day_refuse se_Day_refuse rfl ⟨Nat.le_of_ble_eq_true rfl, Nat.le_of_ble_eq_true rfl⟩ ⟨Nat.le_of_ble_eq_true rfl, Nat.le_of_ble_eq_true rfl⟩ rfl rfl (Nat.le_of_ble_eq_true rfl)  ?_
      exact ev_iret hC hR d_Day_bears_26 rfl (by simp only [D_bears, bad, h_7, h_17, if_true, if_false, cond_true, cond_false, decide_true, decide_false, Bool.not_true, Bool.not_false, Bool.or_true, Bool.true_or, Bool.or_false, Bool.false_or, Bool.and_true, Bool.and_false, Bool.true_and, Bool.false_and, Bool.or_self, Bool.and_self, eq_self] <;> first | rfl | (rfl)) (by simp only [D_bears, bad, h_7, h_17, if_true, if_false, cond_true, cond_false, decide_true, decide_false, Bool.not_true, Bool.not_false, Bool.or_true, Bool.true_or, Bool.or_false, Bool.false_or, Bool.and_true, Bool.and_false, Bool.true_and, Bool.false_and, Bool.or_self, Bool.and_self, eq_self] <;> first | rfl | (rfl))

set_option maxHeartbeats 2000000 in
set_option maxRecDepth 10000 in
theorem c_Day_sum {G : ex_G} {M : ex_M} {np ne : Nat} {e n : Int32} (w : WF (M.1 0) np ne) : Con G Y_Day_sum 5 115 0 0 [.ref (ex_b G + 0), .int e, .int n] (ce G M) (some (.int (D_sum M np ne e n).1)) (ce G ((D_sum M np ne e n).2)) := by
  refine Con.ofF (plainFor_of_name (by decide +kernel)) (Nat.le_of_ble_eq_true rfl) (fun C hC hR => ?_)
  show Ev G C Y_Day_sum 0 [some (.ref (ex_b G + 0)), some (.int e), some (.int n)] [] 0 0 (ce G M)
  obtain ⟨hc, hn, hc2, hn2, hmet, hkd, hkn⟩ := w
  refine ev_aload_n rfl hC d_Day_sum_0 ?_
  refine ev_iload_n rfl hC d_Day_sum_1 ?_
  refine cv_Day1 hC d_Day_sum_2 (c_Day_noEvent ) mi_Day_noEvent ml_Day_73 im_Day_noEvent se_Day_noEvent rfl ⟨Nat.le_of_ble_eq_true rfl, Nat.le_of_ble_eq_true rfl⟩ ⟨Nat.le_of_ble_eq_true rfl, Nat.le_of_ble_eq_true rfl⟩ rfl rfl (Nat.le_of_ble_eq_true rfl)  ?_
  refine eb_ne 18 hC d_Day_sum_5 rfl (fun h_5 => ?_) (fun h_5 => ?_)
  · refine ev_aload_n rfl hC d_Day_sum_18 ?_
    refine ev_ldc kc_Day_55 hC d_Day_sum_19 ?_
    refine cv_Day1 hC d_Day_sum_21 (c_Day_refuse (k := 0) (by omega) (by decide +kernel)) mi_Day_refuse ml_Day_56 im_Day_refuse se_Day_refuse rfl ⟨Nat.le_of_ble_eq_true rfl, Nat.le_of_ble_eq_true rfl⟩ ⟨Nat.le_of_ble_eq_true rfl, Nat.le_of_ble_eq_true rfl⟩ rfl rfl (Nat.le_of_ble_eq_true rfl)  ?_
    exact ev_iret hC hR d_Day_sum_24 rfl (by simp only [D_sum, bad, h_5, if_true, if_false, cond_true, cond_false, decide_true, decide_false, Bool.not_true, Bool.not_false, Bool.or_true, Bool.true_or, Bool.or_false, Bool.false_or, Bool.and_true, Bool.and_false, Bool.true_and, Bool.false_and, Bool.or_self, Bool.and_self, eq_self] <;> first | rfl | (rfl)) (by simp only [D_sum, bad, h_5, if_true, if_false, cond_true, cond_false, decide_true, decide_false, Bool.not_true, Bool.not_false, Bool.or_true, Bool.true_or, Bool.or_false, Bool.false_or, Bool.and_true, Bool.and_false, Bool.true_and, Bool.false_and, Bool.or_self, Bool.and_self, eq_self] <;> first | rfl | (rfl))
  · refine ev_iload_n rfl hC d_Day_sum_8 ?_
    refine ev_iconst (v := 0) rfl hC d_Day_sum_9 ?_
    refine ev_bipush (v := 72) rfl hC d_Day_sum_10 ?_
    refine cs_1 hC d_Day_sum_12 (c_Day_outside ) mi_Day_outside ml_Day_51 sm_Day_outside ⟨Nat.le_of_ble_eq_true rfl, Nat.le_of_ble_eq_true rfl⟩ ⟨Nat.le_of_ble_eq_true rfl, Nat.le_of_ble_eq_true rfl⟩ rfl rfl (Nat.le_of_ble_eq_true rfl) ?_
    refine eb_eq 25 hC d_Day_sum_15 rfl (fun h_15 => ?_) (fun h_15 => ?_)
    · obtain ⟨i, hi, rfl⟩ := out_ix hc2 hn2 h_5
      have ci : (nI i).toNatClampNeg = i := nI_clamp (by omega)
      obtain ⟨n1, hn1, rfl⟩ := out_nat (n := 72) (by decide) h_15
      have cn : (nI n1).toNatClampNeg = n1 := nI_clamp (by omega)
      refine ev_aload_n rfl hC d_Day_sum_25 ?_
      refine cv_Day0 hC d_Day_sum_26 (c_Day_startTrial ⟨hc, hn, hc2, hn2, hmet, hkd, hkn⟩) mi_Day_startTrial ml_Day_181 im_Day_startTrial se_Day_startTrial rfl ⟨Nat.le_of_ble_eq_true rfl, Nat.le_of_ble_eq_true rfl⟩ ⟨Nat.le_of_ble_eq_true rfl, Nat.le_of_ble_eq_true rfl⟩ rfl rfl (Nat.le_of_ble_eq_true rfl)  ?_
      refine ev_aload_n rfl hC d_Day_sum_29 ?_
      refine gv_Day_trial hC d_Day_sum_30 fl_Day_16  ?_
      refine ev_iload_n rfl hC d_Day_sum_33 ?_
      refine cv_River0 hC d_Day_sum_34 (c_River_passHours hn hn2 (by decide) (by omega) (by simp only [tr0, mI, mJ, wr_wr, wr_s, wr_n (show (0 : Nat) ≠ 1 by decide)]; rw [becR_lo (by omega)]; exact hc) (by simp only [tr0, mI, mJ, wr_wr, wr_s, wr_n (show (0 : Nat) ≠ 1 by decide)]; rw [becR_lo (by omega)]; exact hc2)) mi_River_passHours ml_Day_165 im_River_passHours se_River_passHours rfl ⟨Nat.le_of_ble_eq_true rfl, Nat.le_of_ble_eq_true rfl⟩ ⟨Nat.le_of_ble_eq_true rfl, Nat.le_of_ble_eq_true rfl⟩ rfl rfl (Nat.le_of_ble_eq_true rfl) (by first | assumption | decide) ?_
      refine ev_aload_n rfl hC d_Day_sum_37 ?_
      refine gv_Day_trial hC d_Day_sum_38 fl_Day_16  ?_
      refine cv_River1 hC d_Day_sum_41 (c_River_allPurses hn (by decide) (by simp only [tr0, mI, mJ, wr_wr, wr_s, wr_n (show (0 : Nat) ≠ 1 by decide)]; rw [hoursC_cnt hn2 (by omega) (by omega), becR_lo (by omega)]; exact hc)) mi_River_allPurses ml_Day_168 im_River_allPurses se_River_allPurses rfl ⟨Nat.le_of_ble_eq_true rfl, Nat.le_of_ble_eq_true rfl⟩ ⟨Nat.le_of_ble_eq_true rfl, Nat.le_of_ble_eq_true rfl⟩ rfl rfl (Nat.le_of_ble_eq_true rfl) (by first | assumption | decide) ?_
      refine ev_istore_n (by decide) hC d_Day_sum_44 ?_
      refine ev_aload_n rfl hC d_Day_sum_45 ?_
      refine cv_Day0 hC d_Day_sum_46 (c_Day_startTrial (np := np) (ne := ne) (by simp only [tr0, mI, wr_n (show (0 : Nat) ≠ 1 by decide)]; exact ⟨hc, hn, hc2, hn2, hmet, hkd, hkn⟩)) mi_Day_startTrial ml_Day_181 im_Day_startTrial se_Day_startTrial rfl ⟨Nat.le_of_ble_eq_true rfl, Nat.le_of_ble_eq_true rfl⟩ ⟨Nat.le_of_ble_eq_true rfl, Nat.le_of_ble_eq_true rfl⟩ rfl rfl (Nat.le_of_ble_eq_true rfl)  ?_
      refine ev_aload_n rfl hC d_Day_sum_49 ?_
      refine gv_Day_trial hC d_Day_sum_50 fl_Day_16  ?_
      refine gn_River_events hC d_Day_sum_53 fl_Day_77 (by first | assumption | decide) ?_
      refine ev_iload_n rfl hC d_Day_sum_56 ?_
      refine gr_events hC d_Day_sum_57 (by first | assumption | decide) (by first | assumption | omega) ?_
      refine ev_iconst (v := 0) rfl hC d_Day_sum_58 ?_
      refine pn_Event_worth hC d_Day_sum_59 fl_Day_86 (by first | assumption | decide) (by first | assumption | omega) ?_
      refine ev_aload_n rfl hC d_Day_sum_62 ?_
      refine gv_Day_trial hC d_Day_sum_63 fl_Day_16  ?_
      refine ev_iload_n rfl hC d_Day_sum_66 ?_
      refine cv_River0 hC d_Day_sum_67 (c_River_passHours hn hn2 (by decide) (by omega) (by simp only [tr0, mI, mJ, wr_wr, wr_s, wr_n (show (0 : Nat) ≠ 1 by decide)]; rw [ud_n (by omega), becR_lo (by omega)]; exact hc) (by simp only [tr0, mI, mJ, wr_wr, wr_s, wr_n (show (0 : Nat) ≠ 1 by decide)]; rw [ud_n (by omega), becR_lo (by omega)]; exact hc2)) mi_River_passHours ml_Day_165 im_River_passHours se_River_passHours rfl ⟨Nat.le_of_ble_eq_true rfl, Nat.le_of_ble_eq_true rfl⟩ ⟨Nat.le_of_ble_eq_true rfl, Nat.le_of_ble_eq_true rfl⟩ rfl rfl (Nat.le_of_ble_eq_true rfl) (by first | assumption | decide) ?_
      refine ev_iload_n rfl hC d_Day_sum_70 ?_
      refine ev_aload_n rfl hC d_Day_sum_71 ?_
      refine gv_Day_trial hC d_Day_sum_72 fl_Day_16  ?_
      refine cv_River1 hC d_Day_sum_75 (c_River_allPurses hn (by decide) (by simp only [tr0, mI, mJ, wr_wr, wr_s, wr_n (show (0 : Nat) ≠ 1 by decide)]; rw [hoursC_cnt hn2 (by omega) (by omega), ud_n (by omega), becR_lo (by omega)]; exact hc)) mi_River_allPurses ml_Day_168 im_River_allPurses se_River_allPurses rfl ⟨Nat.le_of_ble_eq_true rfl, Nat.le_of_ble_eq_true rfl⟩ ⟨Nat.le_of_ble_eq_true rfl, Nat.le_of_ble_eq_true rfl⟩ rfl rfl (Nat.le_of_ble_eq_true rfl) (by first | assumption | decide) ?_
      refine ev_isub hC d_Day_sum_78 ?_
      exact ev_iret hC hR d_Day_sum_79 rfl (by simp only [D_sum, bad, h_5, h_15, ix, ci, cn, tSum, tro, tr0, mI, mJ, wr_wr, wr_s, wr_n (show (0 : Nat) ≠ 1 by decide), if_true, if_false, cond_true, cond_false, decide_true, decide_false, Bool.not_true, Bool.not_false, Bool.or_true, Bool.true_or, Bool.or_false, Bool.false_or, Bool.and_true, Bool.and_false, Bool.true_and, Bool.false_and, Bool.or_self, Bool.and_self, eq_self] <;> first | rfl | (rfl)) (by simp only [D_sum, bad, h_5, h_15, ix, ci, cn, tSum, tro, tr0, mI, mJ, wr_wr, wr_s, wr_n (show (0 : Nat) ≠ 1 by decide), if_true, if_false, cond_true, cond_false, decide_true, decide_false, Bool.not_true, Bool.not_false, Bool.or_true, Bool.true_or, Bool.or_false, Bool.false_or, Bool.and_true, Bool.and_false, Bool.true_and, Bool.false_and, Bool.or_self, Bool.and_self, eq_self] <;> first | rfl | (rfl))
    · refine ev_aload_n rfl hC d_Day_sum_18 ?_
      refine ev_ldc kc_Day_55 hC d_Day_sum_19 ?_
      refine cv_Day1 hC d_Day_sum_21 (c_Day_refuse (k := 0) (by omega) (by decide +kernel)) mi_Day_refuse ml_Day_56 im_Day_refuse se_Day_refuse rfl ⟨Nat.le_of_ble_eq_true rfl, Nat.le_of_ble_eq_true rfl⟩ ⟨Nat.le_of_ble_eq_true rfl, Nat.le_of_ble_eq_true rfl⟩ rfl rfl (Nat.le_of_ble_eq_true rfl)  ?_
      exact ev_iret hC hR d_Day_sum_24 rfl (by simp only [D_sum, bad, h_5, h_15, if_true, if_false, cond_true, cond_false, decide_true, decide_false, Bool.not_true, Bool.not_false, Bool.or_true, Bool.true_or, Bool.or_false, Bool.false_or, Bool.and_true, Bool.and_false, Bool.true_and, Bool.false_and, Bool.or_self, Bool.and_self, eq_self] <;> first | rfl | (rfl)) (by simp only [D_sum, bad, h_5, h_15, if_true, if_false, cond_true, cond_false, decide_true, decide_false, Bool.not_true, Bool.not_false, Bool.or_true, Bool.true_or, Bool.or_false, Bool.false_or, Bool.and_true, Bool.and_false, Bool.true_and, Bool.false_and, Bool.or_self, Bool.and_self, eq_self] <;> first | rfl | (rfl))

set_option maxHeartbeats 4000000 in
set_option maxRecDepth 10000 in
theorem lp_Day_news {G : ex_G} {C : ex_C} {rr : Option Value} {ee : List va_E} {np ne j h : Nat} {q : Nat → Int32} (hj : j < 8) (hh : h < 2 ^ 30) (w : WF q np ne) (hC : Cx G C Y_Day_news { frames := 6, cells := 0, slots := 0, locals := 137 }) (hR : Cr G C Y_Day_news 0 0 rr ee) :
    ∀ (m i : Nat) (M : ex_M), i + m = ne → M.1 0 = q → rr = some (.int (orN (fin3 M (lpB np ne np h (fun e => hb (q (28 + 7 * j + 6)) (nI e)) (fun e b => oHear b j ((1 : Int32) <<< (nI e &&& 31))) (fun t => t (28 + 7 * j + 2)) q m i (M.1 1, M.1 3))) ((lpB np ne np h (fun e => hb (q (28 + 7 * j + 6)) (nI e)) (fun e b => oHear b j ((1 : Int32) <<< (nI e &&& 31))) (fun t => t (28 + 7 * j + 2)) q m i (M.1 1, M.1 3)).2 1)).1) ∧ ee = ce G (orN (fin3 M (lpB np ne np h (fun e => hb (q (28 + 7 * j + 6)) (nI e)) (fun e b => oHear b j ((1 : Int32) <<< (nI e &&& 31))) (fun t => t (28 + 7 * j + 2)) q m i (M.1 1, M.1 3))) ((lpB np ne np h (fun e => hb (q (28 + 7 * j + 6)) (nI e)) (fun e b => oHear b j ((1 : Int32) <<< (nI e &&& 31))) (fun t => t (28 + 7 * j + 2)) q m i (M.1 1, M.1 3)).2 1)).2 → Ev G C Y_Day_news 44 [some (.ref (ex_b G + 0)), some (.int (nI j)), some (.int (nI h)), some (.int (nI i))] [] 0 0 (ce G (M)) := by
  intro m
  induction m with
  | zero =>
    intro i M hm hc he
    refine ev_iload_n rfl hC d_Day_news_44 ?_
    refine ev_aload_n rfl hC d_Day_news_45 ?_
    refine gv_Day_present hC d_Day_news_46 fl_Day_12  ?_
    refine gn_River_eventCount hC d_Day_news_49 fl_Day_214 (by first | assumption | decide) ?_
    refine ev_icmp_ge 110 hC d_Day_news_52 rfl (fun _ => ?_) (fun h => absurd (by rw [hc, (show q 2 = nI ne from w.2.2.1)]; exact nI_le (by omega) (by have := w.2.2.2.1; omega)) h)
    refine ev_aload_n rfl hC d_Day_news_110 ?_
    refine gv_Day_best hC d_Day_news_111 fl_Day_29  ?_
    refine gn_Best_choice hC d_Day_news_114 fl_Day_198  ?_
    refine ev_ldc kc_Day_190 hC d_Day_news_117 ?_
    refine ev_icmp_ne 131 hC d_Day_news_119 rfl (fun h_119 => ?_) (fun h_119 => ?_)
    · refine ev_aload_n rfl hC d_Day_news_131 ?_
      refine gv_Day_best hC d_Day_news_132 fl_Day_29  ?_
      refine gn_Best_choice hC d_Day_news_135 fl_Day_198  ?_
      exact ev_iret hC hR d_Day_news_138 rfl (by rw [he.1, lpB]; simp only [orN, if_neg h_119]) (by rw [he.2, lpB]; simp only [orN, if_neg h_119, fin3_id])
    · refine ev_aload_n rfl hC d_Day_news_122 ?_
      refine ev_ldc kc_Day_190 hC d_Day_news_123 ?_
      refine cv_Day1 hC d_Day_news_125 (c_Day_refuse (k := 3) (by omega) (by decide +kernel)) mi_Day_refuse ml_Day_56 im_Day_refuse se_Day_refuse rfl ⟨Nat.le_of_ble_eq_true rfl, Nat.le_of_ble_eq_true rfl⟩ ⟨Nat.le_of_ble_eq_true rfl, Nat.le_of_ble_eq_true rfl⟩ rfl rfl (Nat.le_of_ble_eq_true rfl)  ?_
      refine ev_goto 138 hC d_Day_news_128 rfl ?_
      exact ev_iret hC hR d_Day_news_138 rfl (by rw [he.1, lpB]; simp only [orN, if_pos h_119, bad]; rfl) (by rw [he.2, lpB]; simp only [orN, if_pos h_119, bad, fin3_id])
  | succ m ih =>
    intro i M hm hc he
    obtain ⟨wc, hn, wc2, hn2, -, -, -⟩ := id w
    refine ev_iload_n rfl hC d_Day_news_44 ?_
    refine ev_aload_n rfl hC d_Day_news_45 ?_
    refine gv_Day_present hC d_Day_news_46 fl_Day_12  ?_
    refine gn_River_eventCount hC d_Day_news_49 fl_Day_214 (by first | assumption | decide) ?_
    refine ev_icmp_ge 110 hC d_Day_news_52 rfl (fun h => absurd h (by rw [hc, (show q 2 = nI ne from w.2.2.1)]; exact nI_ge (by omega) (by have := w.2.2.2.1; omega))) (fun _ => ?_)
    refine ev_aload_n rfl hC d_Day_news_55 ?_
    refine gv_Day_present hC d_Day_news_56 fl_Day_12  ?_
    refine gn_River_people hC d_Day_news_59 fl_Day_111 (by first | assumption | decide) ?_
    refine ev_iload_n rfl hC d_Day_news_62 ?_
    refine gr_people hC d_Day_news_63 (by first | assumption | decide) (by first | assumption | omega) ?_
    refine ev_iload_n rfl hC d_Day_news_64 ?_
    refine cv_One1 hC d_Day_news_65 (c_One_hasHeard (by first | assumption | omega) (by first | assumption | omega)) mi_One_hasHeard ml_Day_184 im_One_hasHeard se_One_hasHeard rfl ⟨Nat.le_of_ble_eq_true rfl, Nat.le_of_ble_eq_true rfl⟩ ⟨Nat.le_of_ble_eq_true rfl, Nat.le_of_ble_eq_true rfl⟩ rfl rfl (Nat.le_of_ble_eq_true rfl) (by first | assumption | decide) (by first | assumption | omega) ?_
    refine eb_ne 104 hC d_Day_news_68 rfl (fun h_68 => ?_) (fun h_68 => ?_)
    · refine ev_iinc rfl (by decide) (nI_1 _) hC d_Day_news_104 ?_
      refine ev_goto 44 hC d_Day_news_107 rfl ?_
      refine ih (i + 1) M (by omega) hc ?_
      rw [hc] at h_68
      rw [he.1, he.2, lpB]
      simp only [h_68, cond_true]
      exact ⟨trivial, trivial⟩
    · refine ev_aload_n rfl hC d_Day_news_71 ?_
      refine cv_Day0 hC d_Day_news_72 (c_Day_startTrial (by rw [hc]; exact w)) mi_Day_startTrial ml_Day_181 im_Day_startTrial se_Day_startTrial rfl ⟨Nat.le_of_ble_eq_true rfl, Nat.le_of_ble_eq_true rfl⟩ ⟨Nat.le_of_ble_eq_true rfl, Nat.le_of_ble_eq_true rfl⟩ rfl rfl (Nat.le_of_ble_eq_true rfl)  ?_
      refine ev_aload_n rfl hC d_Day_news_75 ?_
      refine gv_Day_trial hC d_Day_news_76 fl_Day_16  ?_
      refine gn_River_people hC d_Day_news_79 fl_Day_111 (by first | assumption | decide) ?_
      refine ev_iload_n rfl hC d_Day_news_82 ?_
      refine gr_people hC d_Day_news_83 (by first | assumption | decide) (by first | assumption | omega) ?_
      refine ev_iconst (v := 1) rfl hC d_Day_news_84 ?_
      refine ev_iload_n rfl hC d_Day_news_85 ?_
      refine ev_ishl hC d_Day_news_86 ?_
      refine cv_One0 hC d_Day_news_87 (c_One_hear (by first | assumption | omega) (by first | assumption | omega)) mi_One_hear ml_Day_217 im_One_hear se_One_hear rfl ⟨Nat.le_of_ble_eq_true rfl, Nat.le_of_ble_eq_true rfl⟩ ⟨Nat.le_of_ble_eq_true rfl, Nat.le_of_ble_eq_true rfl⟩ rfl rfl (Nat.le_of_ble_eq_true rfl) (by first | assumption | decide) (by first | assumption | omega) ?_
      refine ev_aload_n rfl hC d_Day_news_90 ?_
      refine gv_Day_best hC d_Day_news_91 fl_Day_29  ?_
      refine ev_iload_n rfl hC d_Day_news_94 ?_
      refine ev_aload_n rfl hC d_Day_news_95 ?_
      refine ev_iload_n rfl hC d_Day_news_96 ?_
      refine ev_iload_n rfl hC d_Day_news_97 ?_
      refine cv_Day1 hC d_Day_news_98 (c_Day_purseInTrial hn hn2 hj hh (by simp only [tr0, mI, mJ, wr_wr, wr_s]; rw [oHear_lo (by omega), becR_lo (by omega), hc]; exact wc) (by simp only [tr0, mI, mJ, wr_wr, wr_s]; rw [oHear_lo (by omega), becR_lo (by omega), hc]; exact wc2)) mi_Day_purseInTrial ml_Day_208 im_Day_purseInTrial se_Day_purseInTrial rfl ⟨Nat.le_of_ble_eq_true rfl, Nat.le_of_ble_eq_true rfl⟩ ⟨Nat.le_of_ble_eq_true rfl, Nat.le_of_ble_eq_true rfl⟩ rfl rfl (Nat.le_of_ble_eq_true rfl)  ?_
      refine cv_Best0 hC d_Day_news_101 (c_Best_offer2) mi_Best_offer ml_Day_211 im_Best_offer se_Best_offer rfl ⟨Nat.le_of_ble_eq_true rfl, Nat.le_of_ble_eq_true rfl⟩ ⟨Nat.le_of_ble_eq_true rfl, Nat.le_of_ble_eq_true rfl⟩ rfl rfl (Nat.le_of_ble_eq_true rfl)  ?_
      refine ev_iinc rfl (by decide) (nI_1 _) hC d_Day_news_104 ?_
      refine ev_goto 44 hC d_Day_news_107 rfl ?_
      rw [hc] at h_68
      refine ih (i + 1) _ (by omega) (by simp only [tr0, mI]; rw [wr_n (by decide), wr_n (by decide), wr_n (by decide), wr_n (by decide)]; exact hc) ?_
      rw [he.1, he.2, lpB]
      simp only [h_68, cond_false]
      simp only [tr0, mI, mJ, wr_wr, wr_s, wr_n (show (3 : Nat) ≠ 1 by decide), wr_n (show (1 : Nat) ≠ 3 by decide), hc]
      have ef := fun z => fin3_13 M (hoursC np ne h (oHear (becR (M.1 1) q np ne) j ((1 : Int32) <<< (nI i &&& 31)))) (bst (M.1 3) (nI i) (hoursC np ne h (oHear (becR (M.1 1) q np ne) j ((1 : Int32) <<< (nI i &&& 31))) (28 + 7 * j + 2))) z
      simp only [mI] at ef
      simp only [ef]
      exact ⟨trivial, trivial⟩

set_option maxHeartbeats 2000000 in
set_option maxRecDepth 10000 in
theorem c_Day_news {G : ex_G} {M : ex_M} {np ne : Nat} {p n : Int32} (w : WF (M.1 0) np ne) : Con G Y_Day_news 6 137 0 0 [.ref (ex_b G + 0), .int p, .int n] (ce G M) (some (.int (D_news M np ne p n).1)) (ce G ((D_news M np ne p n).2)) := by
  refine Con.ofF (plainFor_of_name (by decide +kernel)) (Nat.le_of_ble_eq_true rfl) (fun C hC hR => ?_)
  show Ev G C Y_Day_news 0 [some (.ref (ex_b G + 0)), some (.int p), some (.int n)] [] 0 0 (ce G M)
  obtain ⟨hc, hn, hc2, hn2, hmet, hkd, hkn⟩ := w
  refine ev_aload_n rfl hC d_Day_news_0 ?_
  refine ev_iload_n rfl hC d_Day_news_1 ?_
  refine cv_Day1 hC d_Day_news_2 (c_Day_noOne ) mi_Day_noOne ml_Day_108 im_Day_noOne se_Day_noOne rfl ⟨Nat.le_of_ble_eq_true rfl, Nat.le_of_ble_eq_true rfl⟩ ⟨Nat.le_of_ble_eq_true rfl, Nat.le_of_ble_eq_true rfl⟩ rfl rfl (Nat.le_of_ble_eq_true rfl)  ?_
  refine eb_ne 18 hC d_Day_news_5 rfl (fun h_5 => ?_) (fun h_5 => ?_)
  · refine ev_aload_n rfl hC d_Day_news_18 ?_
    refine ev_ldc kc_Day_55 hC d_Day_news_19 ?_
    refine cv_Day1 hC d_Day_news_21 (c_Day_refuse (k := 0) (by omega) (by decide +kernel)) mi_Day_refuse ml_Day_56 im_Day_refuse se_Day_refuse rfl ⟨Nat.le_of_ble_eq_true rfl, Nat.le_of_ble_eq_true rfl⟩ ⟨Nat.le_of_ble_eq_true rfl, Nat.le_of_ble_eq_true rfl⟩ rfl rfl (Nat.le_of_ble_eq_true rfl)  ?_
    exact ev_iret hC hR d_Day_news_24 rfl (by simp only [D_news, D_noOne, bad, h_5, if_true, if_false, cond_true, cond_false, decide_true, decide_false, Bool.not_true, Bool.not_false, Bool.or_true, Bool.true_or, Bool.or_false, Bool.false_or, Bool.and_true, Bool.and_false, Bool.true_and, Bool.false_and, Bool.or_self, Bool.and_self, eq_self] <;> first | rfl | (rfl)) (by simp only [D_news, D_noOne, bad, h_5, if_true, if_false, cond_true, cond_false, decide_true, decide_false, Bool.not_true, Bool.not_false, Bool.or_true, Bool.true_or, Bool.or_false, Bool.false_or, Bool.and_true, Bool.and_false, Bool.true_and, Bool.false_and, Bool.or_self, Bool.and_self, eq_self] <;> first | rfl | (rfl))
  · refine ev_iload_n rfl hC d_Day_news_8 ?_
    refine ev_iconst (v := 0) rfl hC d_Day_news_9 ?_
    refine ev_bipush (v := 72) rfl hC d_Day_news_10 ?_
    refine cs_1 hC d_Day_news_12 (c_Day_outside ) mi_Day_outside ml_Day_51 sm_Day_outside ⟨Nat.le_of_ble_eq_true rfl, Nat.le_of_ble_eq_true rfl⟩ ⟨Nat.le_of_ble_eq_true rfl, Nat.le_of_ble_eq_true rfl⟩ rfl rfl (Nat.le_of_ble_eq_true rfl) ?_
    refine eb_eq 25 hC d_Day_news_15 rfl (fun h_15 => ?_) (fun h_15 => ?_)
    · obtain ⟨i, hi, rfl⟩ := out_ix hc hn h_5
      have ci : (nI i).toNatClampNeg = i := nI_clamp (by omega)
      obtain ⟨n1, hn1, rfl⟩ := out_nat (n := 72) (by decide) h_15
      have cn : (nI n1).toNatClampNeg = n1 := nI_clamp (by omega)
      refine ev_aload_n rfl hC d_Day_news_25 ?_
      refine cv_Day0 hC d_Day_news_26 (c_Day_startTrial ⟨hc, hn, hc2, hn2, hmet, hkd, hkn⟩) mi_Day_startTrial ml_Day_181 im_Day_startTrial se_Day_startTrial rfl ⟨Nat.le_of_ble_eq_true rfl, Nat.le_of_ble_eq_true rfl⟩ ⟨Nat.le_of_ble_eq_true rfl, Nat.le_of_ble_eq_true rfl⟩ rfl rfl (Nat.le_of_ble_eq_true rfl)  ?_
      refine ev_aload_n rfl hC d_Day_news_29 ?_
      refine gv_Day_best hC d_Day_news_30 fl_Day_29  ?_
      refine ev_aload_n rfl hC d_Day_news_33 ?_
      refine ev_iload_n rfl hC d_Day_news_34 ?_
      refine ev_iload_n rfl hC d_Day_news_35 ?_
      refine cv_Day1 hC d_Day_news_36 (c_Day_purseInTrial hn hn2 (by omega) (by omega) (by simp only [tr0, mI, mJ, wr_wr, wr_s, wr_n (show (0 : Nat) ≠ 1 by decide)]; rw [becR_lo (by omega)]; exact hc) (by simp only [tr0, mI, mJ, wr_wr, wr_s, wr_n (show (0 : Nat) ≠ 1 by decide)]; rw [becR_lo (by omega)]; exact hc2)) mi_Day_purseInTrial ml_Day_208 im_Day_purseInTrial se_Day_purseInTrial rfl ⟨Nat.le_of_ble_eq_true rfl, Nat.le_of_ble_eq_true rfl⟩ ⟨Nat.le_of_ble_eq_true rfl, Nat.le_of_ble_eq_true rfl⟩ rfl rfl (Nat.le_of_ble_eq_true rfl)  ?_
      refine cv_Best0 hC d_Day_news_39 (c_Best_begin ) mi_Best_begin ml_Day_205 im_Best_begin se_Best_begin rfl ⟨Nat.le_of_ble_eq_true rfl, Nat.le_of_ble_eq_true rfl⟩ ⟨Nat.le_of_ble_eq_true rfl, Nat.le_of_ble_eq_true rfl⟩ rfl rfl (Nat.le_of_ble_eq_true rfl)  ?_
      refine ev_iconst (v := nI 0) rfl hC d_Day_news_42 ?_
      refine ev_istore_n (by decide) hC d_Day_news_43 ?_
      refine lp_Day_news (np := np) (ne := ne) (q := M.1 0) (by omega) (by omega) ⟨hc, hn, hc2, hn2, hmet, hkd, hkn⟩ hC hR ne 0 _ (by omega) (by simp only [tr0, mI]; rw [wr_n (by decide), wr_n (by decide), wr_n (by decide)]) ?_
      simp only [D_news, D_noOne, zNews, h_5, h_15, ix, ci, cn, if_true, if_false, cond_true, cond_false, decide_true, decide_false, Bool.not_true, Bool.not_false, Bool.or_true, Bool.true_or, Bool.or_false, Bool.false_or, Bool.and_true, Bool.and_false, Bool.true_and, Bool.false_and, Bool.or_self, Bool.and_self, eq_self]
      simp only [tr0, tro, bst0, mI, wr_wr, wr_s, wr_n (show (1 : Nat) ≠ 3 by decide), wr_n (show (3 : Nat) ≠ 1 by decide)]
      have ef := fun z => fin3_13 M (hoursC np ne n1 (becR (M.1 1) (M.1 0) np ne)) (upd (upd (M.1 3) 1 (-1000000004)) 2 (hoursC np ne n1 (becR (M.1 1) (M.1 0) np ne) (28 + 7 * i + 2))) z
      simp only [mI] at ef
      simp only [ef]
      exact ⟨trivial, trivial⟩
    · refine ev_aload_n rfl hC d_Day_news_18 ?_
      refine ev_ldc kc_Day_55 hC d_Day_news_19 ?_
      refine cv_Day1 hC d_Day_news_21 (c_Day_refuse (k := 0) (by omega) (by decide +kernel)) mi_Day_refuse ml_Day_56 im_Day_refuse se_Day_refuse rfl ⟨Nat.le_of_ble_eq_true rfl, Nat.le_of_ble_eq_true rfl⟩ ⟨Nat.le_of_ble_eq_true rfl, Nat.le_of_ble_eq_true rfl⟩ rfl rfl (Nat.le_of_ble_eq_true rfl)  ?_
      exact ev_iret hC hR d_Day_news_24 rfl (by simp only [D_news, D_noOne, bad, h_5, h_15, if_true, if_false, cond_true, cond_false, decide_true, decide_false, Bool.not_true, Bool.not_false, Bool.or_true, Bool.true_or, Bool.or_false, Bool.false_or, Bool.and_true, Bool.and_false, Bool.true_and, Bool.false_and, Bool.or_self, Bool.and_self, eq_self] <;> first | rfl | (rfl)) (by simp only [D_news, D_noOne, bad, h_5, h_15, if_true, if_false, cond_true, cond_false, decide_true, decide_false, Bool.not_true, Bool.not_false, Bool.or_true, Bool.true_or, Bool.or_false, Bool.false_or, Bool.and_true, Bool.and_false, Bool.true_and, Bool.false_and, Bool.or_self, Bool.and_self, eq_self] <;> first | rfl | (rfl))

theorem sendAw_2 {g n : Nat} {b : Nat → Int32} : sendAw g n b 2 = b 2 := by unfold sendAw; rw [ud_n (by omega)]; exact rp_keep (f := fGo) (fun i b => oCpy_lo (by omega)) _ _ _
theorem sendAw_3 {g n : Nat} {b : Nat → Int32} : sendAw g n b 3 = nI (n - 1) := by unfold sendAw; rw [ud_s]

set_option maxHeartbeats 4000000 in
set_option maxRecDepth 10000 in
theorem lp_Day_needed {G : ex_G} {C : ex_C} {rr : Option Value} {ee : List va_E} {np ne h : Nat} {q : Nat → Int32} (hh : h < 2 ^ 30) (w : WF q np ne) (hC : Cx G C Y_Day_needed { frames := 6, cells := 0, slots := 0, locals := 136 }) (hR : Cr G C Y_Day_needed 0 0 rr ee) :
    ∀ (m i : Nat) (M : ex_M), i + m = np → M.1 0 = q → rr = some (.int (orN (fin3 M (lpB np ne (np - 1) h (fun _ => false) (fun i b => sendAw i np b) (fun t => -metC t ne) q m i (M.1 1, M.1 3))) ((lpB np ne (np - 1) h (fun _ => false) (fun i b => sendAw i np b) (fun t => -metC t ne) q m i (M.1 1, M.1 3)).2 1)).1) ∧ ee = ce G (orN (fin3 M (lpB np ne (np - 1) h (fun _ => false) (fun i b => sendAw i np b) (fun t => -metC t ne) q m i (M.1 1, M.1 3))) ((lpB np ne (np - 1) h (fun _ => false) (fun i b => sendAw i np b) (fun t => -metC t ne) q m i (M.1 1, M.1 3)).2 1)).2 → Ev G C Y_Day_needed 36 [some (.ref (ex_b G + 0)), some (.int (nI h)), some (.int (nI i))] [] 0 0 (ce G (M)) := by
  intro m
  induction m with
  | zero =>
    intro i M hm hc he
    refine ev_iload_n rfl hC d_Day_needed_36 ?_
    refine ev_aload_n rfl hC d_Day_needed_37 ?_
    refine gv_Day_present hC d_Day_needed_38 fl_Day_12  ?_
    refine gn_River_peopleCount hC d_Day_needed_41 fl_Day_223 (by first | assumption | decide) ?_
    refine ev_icmp_ge 79 hC d_Day_needed_44 rfl (fun _ => ?_) (fun h => absurd (by rw [hc, (show q 3 = nI np from w.1)]; exact nI_le (by omega) (by have := w.2.1; omega)) h)
    refine ev_aload_n rfl hC d_Day_needed_79 ?_
    refine gv_Day_best hC d_Day_needed_80 fl_Day_29  ?_
    refine gn_Best_choice hC d_Day_needed_83 fl_Day_198  ?_
    refine ev_ldc kc_Day_190 hC d_Day_needed_86 ?_
    refine ev_icmp_ne 100 hC d_Day_needed_88 rfl (fun h_88 => ?_) (fun h_88 => ?_)
    · refine ev_aload_n rfl hC d_Day_needed_100 ?_
      refine gv_Day_best hC d_Day_needed_101 fl_Day_29  ?_
      refine gn_Best_choice hC d_Day_needed_104 fl_Day_198  ?_
      exact ev_iret hC hR d_Day_needed_107 rfl (by rw [he.1, lpB]; simp only [orN, if_neg h_88]) (by rw [he.2, lpB]; simp only [orN, if_neg h_88, fin3_id])
    · refine ev_aload_n rfl hC d_Day_needed_91 ?_
      refine ev_ldc kc_Day_190 hC d_Day_needed_92 ?_
      refine cv_Day1 hC d_Day_needed_94 (c_Day_refuse (k := 3) (by omega) (by decide +kernel)) mi_Day_refuse ml_Day_56 im_Day_refuse se_Day_refuse rfl ⟨Nat.le_of_ble_eq_true rfl, Nat.le_of_ble_eq_true rfl⟩ ⟨Nat.le_of_ble_eq_true rfl, Nat.le_of_ble_eq_true rfl⟩ rfl rfl (Nat.le_of_ble_eq_true rfl)  ?_
      refine ev_goto 107 hC d_Day_needed_97 rfl ?_
      exact ev_iret hC hR d_Day_needed_107 rfl (by rw [he.1, lpB]; simp only [orN, if_pos h_88, bad]; rfl) (by rw [he.2, lpB]; simp only [orN, if_pos h_88, bad, fin3_id])
  | succ m ih =>
    intro i M hm hc he
    obtain ⟨wc, hn, wc2, hn2, -, -, -⟩ := id w
    refine ev_iload_n rfl hC d_Day_needed_36 ?_
    refine ev_aload_n rfl hC d_Day_needed_37 ?_
    refine gv_Day_present hC d_Day_needed_38 fl_Day_12  ?_
    refine gn_River_peopleCount hC d_Day_needed_41 fl_Day_223 (by first | assumption | decide) ?_
    refine ev_icmp_ge 79 hC d_Day_needed_44 rfl (fun h => absurd h (by rw [hc, (show q 3 = nI np from w.1)]; exact nI_ge (by omega) (by have := w.2.1; omega))) (fun _ => ?_)
    refine ev_aload_n rfl hC d_Day_needed_47 ?_
    refine cv_Day0 hC d_Day_needed_48 (c_Day_startTrial (by rw [hc]; exact w)) mi_Day_startTrial ml_Day_181 im_Day_startTrial se_Day_startTrial rfl ⟨Nat.le_of_ble_eq_true rfl, Nat.le_of_ble_eq_true rfl⟩ ⟨Nat.le_of_ble_eq_true rfl, Nat.le_of_ble_eq_true rfl⟩ rfl rfl (Nat.le_of_ble_eq_true rfl)  ?_
    refine ev_aload_n rfl hC d_Day_needed_51 ?_
    refine gv_Day_trial hC d_Day_needed_52 fl_Day_16  ?_
    refine ev_iload_n rfl hC d_Day_needed_55 ?_
    refine cv_River0 hC d_Day_needed_56 (c_River_sendAway hn (by decide) (by omega) (by simp only [tr0, mI, wr_s]; rw [becR_lo (by omega), hc]; exact wc)) mi_River_sendAway ml_Day_226 im_River_sendAway se_River_sendAway rfl ⟨Nat.le_of_ble_eq_true rfl, Nat.le_of_ble_eq_true rfl⟩ ⟨Nat.le_of_ble_eq_true rfl, Nat.le_of_ble_eq_true rfl⟩ rfl rfl (Nat.le_of_ble_eq_true rfl) (by first | assumption | decide) ?_
    refine ev_aload_n rfl hC d_Day_needed_59 ?_
    refine gv_Day_best hC d_Day_needed_60 fl_Day_29  ?_
    refine ev_iload_n rfl hC d_Day_needed_63 ?_
    refine ev_aload_n rfl hC d_Day_needed_64 ?_
    refine ev_iload_n rfl hC d_Day_needed_65 ?_
    refine cv_Day1 hC d_Day_needed_66 (c_Day_metInTrial (np := np - 1) (by omega) hn2 hh (by simp only [tr0, mI, wr_wr, wr_s]; rw [sendAw_3]) (by simp only [tr0, mI, wr_wr, wr_s]; rw [sendAw_2, becR_lo (by omega), hc]; exact wc2)) mi_Day_metInTrial ml_Day_220 im_Day_metInTrial se_Day_metInTrial rfl ⟨Nat.le_of_ble_eq_true rfl, Nat.le_of_ble_eq_true rfl⟩ ⟨Nat.le_of_ble_eq_true rfl, Nat.le_of_ble_eq_true rfl⟩ rfl rfl (Nat.le_of_ble_eq_true rfl)  ?_
    refine ev_ineg hC d_Day_needed_69 ?_
    refine cv_Best0 hC d_Day_needed_70 (c_Best_offer2) mi_Best_offer ml_Day_211 im_Best_offer se_Best_offer rfl ⟨Nat.le_of_ble_eq_true rfl, Nat.le_of_ble_eq_true rfl⟩ ⟨Nat.le_of_ble_eq_true rfl, Nat.le_of_ble_eq_true rfl⟩ rfl rfl (Nat.le_of_ble_eq_true rfl)  ?_
    refine ev_iinc rfl (by decide) (nI_1 _) hC d_Day_needed_73 ?_
    refine ev_goto 36 hC d_Day_needed_76 rfl ?_
    refine ih (i + 1) _ (by omega) (by simp only [tr0, mI]; rw [wr_n (by decide), wr_n (by decide), wr_n (by decide), wr_n (by decide)]; exact hc) ?_
    rw [he.1, he.2, lpB]
    simp only [cond_false]
    simp only [tr0, mI, mJ, wr_wr, wr_s, wr_n (show (3 : Nat) ≠ 1 by decide), wr_n (show (1 : Nat) ≠ 3 by decide), hc]
    have ef := fun z => fin3_13 M (hoursC (np - 1) ne h (sendAw i np (becR (M.1 1) q np ne))) (bst (M.1 3) (nI i) (-metC (hoursC (np - 1) ne h (sendAw i np (becR (M.1 1) q np ne))) ne)) z
    simp only [mI] at ef
    simp only [ef]
    exact ⟨trivial, trivial⟩

set_option maxHeartbeats 2000000 in
set_option maxRecDepth 10000 in
theorem c_Day_needed {G : ex_G} {M : ex_M} {np ne : Nat} {n : Int32} (w : WF (M.1 0) np ne) : Con G Y_Day_needed 6 136 0 0 [.ref (ex_b G + 0), .int n] (ce G M) (some (.int (D_needed M np ne n).1)) (ce G ((D_needed M np ne n).2)) := by
  refine Con.ofF (plainFor_of_name (by decide +kernel)) (Nat.le_of_ble_eq_true rfl) (fun C hC hR => ?_)
  show Ev G C Y_Day_needed 0 [some (.ref (ex_b G + 0)), some (.int n)] [] 0 0 (ce G M)
  obtain ⟨hc, hn, hc2, hn2, hmet, hkd, hkn⟩ := w
  refine ev_iload_n rfl hC d_Day_needed_0 ?_
  refine ev_iconst (v := 0) rfl hC d_Day_needed_1 ?_
  refine ev_bipush (v := 72) rfl hC d_Day_needed_2 ?_
  refine cs_1 hC d_Day_needed_4 (c_Day_outside ) mi_Day_outside ml_Day_51 sm_Day_outside ⟨Nat.le_of_ble_eq_true rfl, Nat.le_of_ble_eq_true rfl⟩ ⟨Nat.le_of_ble_eq_true rfl, Nat.le_of_ble_eq_true rfl⟩ rfl rfl (Nat.le_of_ble_eq_true rfl) ?_
  refine eb_eq 17 hC d_Day_needed_7 rfl (fun h_7 => ?_) (fun h_7 => ?_)
  · obtain ⟨n1, hn1, rfl⟩ := out_nat (n := 72) (by decide) h_7
    have cn : (nI n1).toNatClampNeg = n1 := nI_clamp (by omega)
    refine ev_aload_n rfl hC d_Day_needed_17 ?_
    refine cv_Day0 hC d_Day_needed_18 (c_Day_startTrial ⟨hc, hn, hc2, hn2, hmet, hkd, hkn⟩) mi_Day_startTrial ml_Day_181 im_Day_startTrial se_Day_startTrial rfl ⟨Nat.le_of_ble_eq_true rfl, Nat.le_of_ble_eq_true rfl⟩ ⟨Nat.le_of_ble_eq_true rfl, Nat.le_of_ble_eq_true rfl⟩ rfl rfl (Nat.le_of_ble_eq_true rfl)  ?_
    refine ev_aload_n rfl hC d_Day_needed_21 ?_
    refine gv_Day_best hC d_Day_needed_22 fl_Day_29  ?_
    refine ev_aload_n rfl hC d_Day_needed_25 ?_
    refine ev_iload_n rfl hC d_Day_needed_26 ?_
    refine cv_Day1 hC d_Day_needed_27 (c_Day_metInTrial hn hn2 (by omega) (by simp only [tr0, mI, mJ, wr_wr, wr_s, wr_n (show (0 : Nat) ≠ 1 by decide)]; rw [becR_lo (by omega)]; exact hc) (by simp only [tr0, mI, mJ, wr_wr, wr_s, wr_n (show (0 : Nat) ≠ 1 by decide)]; rw [becR_lo (by omega)]; exact hc2)) mi_Day_metInTrial ml_Day_220 im_Day_metInTrial se_Day_metInTrial rfl ⟨Nat.le_of_ble_eq_true rfl, Nat.le_of_ble_eq_true rfl⟩ ⟨Nat.le_of_ble_eq_true rfl, Nat.le_of_ble_eq_true rfl⟩ rfl rfl (Nat.le_of_ble_eq_true rfl)  ?_
    refine ev_ineg hC d_Day_needed_30 ?_
    refine cv_Best0 hC d_Day_needed_31 (c_Best_begin ) mi_Best_begin ml_Day_205 im_Best_begin se_Best_begin rfl ⟨Nat.le_of_ble_eq_true rfl, Nat.le_of_ble_eq_true rfl⟩ ⟨Nat.le_of_ble_eq_true rfl, Nat.le_of_ble_eq_true rfl⟩ rfl rfl (Nat.le_of_ble_eq_true rfl)  ?_
    refine ev_iconst (v := nI 0) rfl hC d_Day_needed_34 ?_
    refine ev_istore_n (by decide) hC d_Day_needed_35 ?_
    refine lp_Day_needed (np := np) (ne := ne) (q := M.1 0) (by omega) ⟨hc, hn, hc2, hn2, hmet, hkd, hkn⟩ hC hR np 0 _ (by omega) (by simp only [tr0, mI]; rw [wr_n (by decide), wr_n (by decide), wr_n (by decide)]) ?_
    simp only [D_needed, zNeed, h_7, ix, cn, if_true, if_false, cond_true, cond_false, decide_true, decide_false, Bool.not_true, Bool.not_false, Bool.or_true, Bool.true_or, Bool.or_false, Bool.false_or, Bool.and_true, Bool.and_false, Bool.true_and, Bool.false_and, Bool.or_self, Bool.and_self, eq_self]
    simp only [tr0, tro, bst0, mI, wr_wr, wr_s, wr_n (show (1 : Nat) ≠ 3 by decide), wr_n (show (3 : Nat) ≠ 1 by decide)]
    have ef := fun z => fin3_13 M (hoursC np ne n1 (becR (M.1 1) (M.1 0) np ne)) (upd (upd (M.1 3) 1 (-1000000004)) 2 (-metC (hoursC np ne n1 (becR (M.1 1) (M.1 0) np ne)) ne)) z
    simp only [mI] at ef
    simp only [ef]
    exact ⟨trivial, trivial⟩
  · refine ev_aload_n rfl hC d_Day_needed_10 ?_
    refine ev_ldc kc_Day_55 hC d_Day_needed_11 ?_
    refine cv_Day1 hC d_Day_needed_13 (c_Day_refuse (k := 0) (by omega) (by decide +kernel)) mi_Day_refuse ml_Day_56 im_Day_refuse se_Day_refuse rfl ⟨Nat.le_of_ble_eq_true rfl, Nat.le_of_ble_eq_true rfl⟩ ⟨Nat.le_of_ble_eq_true rfl, Nat.le_of_ble_eq_true rfl⟩ rfl rfl (Nat.le_of_ble_eq_true rfl)  ?_
    exact ev_iret hC hR d_Day_needed_16 rfl (by simp only [D_needed, bad, h_7, if_true, if_false, cond_true, cond_false, decide_true, decide_false, Bool.not_true, Bool.not_false, Bool.or_true, Bool.true_or, Bool.or_false, Bool.false_or, Bool.and_true, Bool.and_false, Bool.true_and, Bool.false_and, Bool.or_self, Bool.and_self, eq_self] <;> first | rfl | (rfl)) (by simp only [D_needed, bad, h_7, if_true, if_false, cond_true, cond_false, decide_true, decide_false, Bool.not_true, Bool.not_false, Bool.or_true, Bool.true_or, Bool.or_false, Bool.false_or, Bool.and_true, Bool.and_false, Bool.true_and, Bool.false_and, Bool.or_self, Bool.and_self, eq_self] <;> first | rfl | (rfl))
