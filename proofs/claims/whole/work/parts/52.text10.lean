/-! the reference's words: what its text's numbers keep -/
def RKI (M : ex_M) : Prop := ∃ l p e, M.1 14 3 = nI l ∧ l ≤ 120 ∧ M.1 14 4 = nI p ∧ p ≤ e ∧ M.1 14 5 = nI e ∧ e ≤ l ∧ (M.1 14 6 = 0 ∨ p < e) ∧ ∀ j, j < l → ¬ M.1 15 j < 0
theorem RKI_mU {M : ex_M} {l p e : Nat} {so v : Int32} (h : M.1 14 3 = nI l) (hl : l ≤ 120) (hp : p ≤ e) (he : e ≤ l) (hs : so = 0 ∨ p < e) (hy : ∀ j, j < l → ¬ M.1 15 j < 0) : RKI (mU M (nI p) (nI e) so v) := ⟨l, p, e, h, hl, rfl, hp, rfl, he, hs, hy⟩
theorem run_lt {q : Int32 → Bool} {t : Nat → Int32} {m p : Nat} (hm : 0 < m) (h : q (t p) = true) : p < run q t m p := by
  obtain ⟨k, rfl⟩ : ∃ k, m = k + 1 := ⟨m - 1, by omega⟩
  rw [run, h, cond_true]
  have := run_le (q := q) (t := t) k (p + 1)
  omega
theorem dig_lt {t : Nat → Int32} {m p : Nat} {v : Int32} (hm : 0 < m) (h : dgt (t p) = true) : p < (dig t m p v).1 := by
  obtain ⟨k, rfl⟩ : ∃ k, m = k + 1 := ⟨m - 1, by omega⟩
  rw [dig, h, cond_true]
  have := dig_le (t := t) k (p + 1) (mn4 (10 * v + t p - 48))
  omega
theorem nxP_4 (M : ex_M) (l p : Nat) : (nxP l p M).1 14 4 = nI p := by
  rw [nxP]
  by_cases hlp : l ≤ p
  · rw [if_pos hlp]; rfl
  · rw [if_neg hlp]
    cases ltr (M.1 15 p) with
    | true => rfl
    | false =>
      cases dgt (M.1 15 p) with
      | true => rfl
      | false => rfl
theorem RKI_nxC {M : ex_M} {l b : Nat} (h : M.1 14 3 = nI l) (hl : l ≤ 120) (hb : b ≤ l) (hy : ∀ j, j < l → ¬ M.1 15 j < 0) : RKI (nxC M l b) := by
  have h1 := run_le (q := spc) (t := M.1 15) (l - b) b
  rw [nxC]
  generalize run spc (M.1 15) (l - b) b = p at h1
  rw [nxP]
  by_cases hlp : l ≤ p
  · rw [if_pos hlp]; exact RKI_mU h hl (Nat.le_refl _) (by omega) (Or.inl rfl) hy
  · rw [if_neg hlp]
    cases hz : ltr (M.1 15 p) with
    | true => have h2 := run_le (q := ltr) (t := M.1 15) (l - p) p; exact RKI_mU h hl h2.1 (by omega) (Or.inr (run_lt (by omega) hz)) hy
    | false =>
      cases hz2 : dgt (M.1 15 p) with
      | true => have h2 := dig_le (t := M.1 15) (l - p) p 0; exact RKI_mU h hl h2.1 (by omega) (Or.inr (dig_lt (by omega) hz2)) hy
      | false => exact RKI_mU h hl (by omega) (by omega) (Or.inr (by omega)) hy
theorem RKI_nxt {M : ex_M} (h : RKI M) : RKI (nxt M) := by
  obtain ⟨l, p, e, h1, h2, h3, h4, h5, h6, h7, h8⟩ := h
  rw [nxt, h1, h5, show ix (nI l) = l from nI_clamp (by omega), show ix (nI e) = e from nI_clamp (by omega)]
  exact RKI_nxC h1 h2 h6 h8
def ps (M : ex_M) : Nat := ix (M.1 14 4)
theorem ps_le {M : ex_M} (h : RKI M) : ps M ≤ 120 := by
  obtain ⟨l, p, e, h1, h2, h3, h4, h5, h6, h7, h8⟩ := h
  rw [ps, h3, show ix (nI p) = p from nI_clamp (by omega)]; omega
theorem ps_lt {M : ex_M} (h : RKI M) (h0 : ¬ M.1 14 6 = 0) : ps M < 120 := by
  obtain ⟨l, p, e, h1, h2, h3, h4, h5, h6, h7, h8⟩ := h
  rw [ps, h3, show ix (nI p) = p from nI_clamp (by omega)]
  rcases h7 with h7 | h7
  · exact absurd h7 h0
  · omega
theorem ps_nxt {M : ex_M} (h : RKI M) : ps M ≤ ps (nxt M) ∧ (¬ M.1 14 6 = 0 → ps M < ps (nxt M)) := by
  obtain ⟨l, p, e, h1, h2, h3, h4, h5, h6, h7, h8⟩ := h
  have q : ps (nxt M) = run spc (M.1 15) (l - e) e := by
    rw [ps, nxt, h1, h5, show ix (nI l) = l from nI_clamp (by omega), show ix (nI e) = e from nI_clamp (by omega), nxC, nxP_4]
    have := run_le (q := spc) (t := M.1 15) (l - e) e
    exact nI_clamp (by omega)
  have r := run_le (q := spc) (t := M.1 15) (l - e) e
  rw [q, ps, h3, show ix (nI p) = p from nI_clamp (by omega)]
  refine ⟨by omega, fun h0 => ?_⟩
  rcases h7 with h7 | h7
  · exact absurd h7 h0
  · omega
theorem nxP_r {l p : Nat} (M : ex_M) {q : Nat} (hq : q ≠ 14) : (nxP l p M).1 q = M.1 q := by
  rw [nxP]
  by_cases hlp : l ≤ p
  · rw [if_pos hlp]; simp only [mU, mI]; exact wr_n hq
  · rw [if_neg hlp]
    cases ltr (M.1 15 p) with
    | true => simp only [cond_true, mU, mI]; exact wr_n hq
    | false =>
      cases dgt (M.1 15 p) with
      | true => simp only [cond_true, cond_false, mU, mI]; exact wr_n hq
      | false => simp only [cond_false, mU, mI]; exact wr_n hq
theorem nxP_k {l p : Nat} (M : ex_M) {j : Nat} (hj : j < 4 ∨ 7 < j) : (nxP l p M).1 14 j = M.1 14 j := by
  have key : ∀ a b c d, (mU M a b c d).1 14 j = M.1 14 j := fun a b c d => by
    simp only [mU, mI, wr_s, st4]
    rw [if_neg (by omega), if_neg (by omega), if_neg (by omega), if_neg (by omega)]
  rw [nxP]
  by_cases hlp : l ≤ p
  · rw [if_pos hlp]; exact key _ _ _ _
  · rw [if_neg hlp]
    cases ltr (M.1 15 p) with
    | true => exact key _ _ _ _
    | false =>
      cases dgt (M.1 15 p) with
      | true => exact key _ _ _ _
      | false => exact key _ _ _ _
theorem nxP_2 {l p : Nat} (M : ex_M) : (nxP l p M).2 = M.2 := by
  rw [nxP]
  by_cases hlp : l ≤ p
  · rw [if_pos hlp]; rfl
  · rw [if_neg hlp]
    cases ltr (M.1 15 p) with
    | true => rfl
    | false =>
      cases dgt (M.1 15 p) with
      | true => rfl
      | false => rfl
theorem nxt_r (M : ex_M) {q : Nat} (hq : q ≠ 14) : (nxt M).1 q = M.1 q := nxP_r M hq
theorem nxt_k (M : ex_M) {j : Nat} (hj : j < 4 ∨ 7 < j) : (nxt M).1 14 j = M.1 14 j := nxP_k M hj
theorem c_next {G : ex_G} {M : ex_M} (h : RKI M) : Con G Y_Mod_next 1 22 0 0 [.ref (ex_b G + 71)] (ce G M) none (ce G (nxt M)) := by
  obtain ⟨l, p, e, h1, h2, h3, h4, h5, h6, h7, h8⟩ := h
  rw [nxt, h1, h5, show ix (nI l) = l from nI_clamp (by omega), show ix (nI e) = e from nI_clamp (by omega)]
  exact c_Mod_next h2 h6 h1 h5 h8
def isWR (M : ex_M) (w : Nat) : Bool := decide (M.1 14 6 = 1) && (decide (ix (M.1 14 5) - ix (M.1 14 4) = wln w) && wdM (M.1 15) (ix (M.1 14 4)) w (wln w) 0)
theorem mJ_id {M : ex_M} {r k : Nat} {v : Int32} (h : M.1 r k = v) : mJ M r k v = M := by
  have : upd (M.1 r) k v = M.1 r := by
    funext j; unfold upd
    by_cases hj : j = k
    · rw [if_pos hj, hj, h]
    · rw [if_neg hj]
  simp only [mJ, this, wr_id]
def mstR (M : ex_M) (b : Bool) : ex_M := bif b && decide (M.1 14 8 = 0) then nxt M else mJ M 14 8 1
def numR (M : ex_M) (mx : Int32) : Int32 × ex_M := (M.1 14 7, mstR M (decide (M.1 14 6 = 2) && !out (M.1 14 7) 0 mx))
def isNxR (M : ex_M) (w : Nat) : Bool × ex_M := bif decide (M.1 14 8 = 0) && isWR M w then (true, nxt M) else (false, M)
/-- what an item's reading needs and keeps: n items so far -/
def RS (n : Nat) (M : ex_M) : Prop := RKI M ∧ (M.1 14 8 = 0 ∨ M.1 14 8 = 1) ∧ M.1 14 9 = nI n
theorem RS_nxt {n : Nat} {M : ex_M} (h : RS n M) : RS n (nxt M) := ⟨RKI_nxt h.1, by rw [nxt_k M (by omega)]; exact h.2.1, by rw [nxt_k M (by omega)]; exact h.2.2⟩
theorem RS_8 {n : Nat} {M : ex_M} (h : RS n M) : RS n (mJ M 14 8 1) := ⟨h.1, Or.inr rfl, h.2.2⟩
theorem RS_10 {n : Nat} {M : ex_M} {v : Int32} (h : RS n M) : RS n (mJ M 14 10 v) := ⟨h.1, h.2.1, h.2.2⟩
theorem RS_11 {n : Nat} {M : ex_M} {v : Int32} (h : RS n M) : RS n (mJ M 14 11 v) := ⟨h.1, h.2.1, h.2.2⟩
theorem RS_mst {n : Nat} {M : ex_M} {b : Bool} (h : RS n M) : RS n (mstR M b) := by
  unfold mstR
  cases (b && decide (M.1 14 8 = 0)) with
  | true => exact RS_nxt h
  | false => exact RS_8 h
theorem RS_num {n : Nat} {M : ex_M} {mx : Int32} (h : RS n M) : RS n (numR M mx).2 := RS_mst h
theorem RS_isN {n : Nat} {M : ex_M} {w : Nat} (h : RS n M) : RS n (isNxR M w).2 := by
  unfold isNxR
  cases (decide (M.1 14 8 = 0) && isWR M w) with
  | true => exact RS_nxt h
  | false => exact h
def it5 (f : Nat → Int32) (n : Nat) (x a b c d : Int32) : Nat → Int32 := upd (upd (upd (upd (upd f (5 * n) x) (5 * n + 1) a) (5 * n + 2) b) (5 * n + 3) c) (5 * n + 4) d
def itmR (M : ex_M) (x a b c d : Int32) : ex_M := mJ (mI M 16 (it5 (M.1 16) (ix (M.1 14 9)) x a b c d)) 14 9 (nI (ix (M.1 14 9) + 1))
def kdL (M : ex_M) : Nat → Nat → Int32 → Int32
  | 0, _, a => a
  | m + 1, k, a => kdL M m (k + 1) (bif isWR M k then nI k else a)

set_option maxHeartbeats 4000000 in
set_option maxRecDepth 10000 in
theorem lp_Mod_isWord {G : ex_G} {C : ex_C} {rr : Option Value} {ee : List va_E} {p w : Nat} (hw : w < 14) (hC : Cx G C Y_Mod_isWord { frames := 4, cells := 0, slots := 0, locals := 85 }) (hR : Cr G C Y_Mod_isWord 0 0 rr ee) :
    ∀ (m i : Nat) (M : ex_M) (b : Bool), i + m = wln w → M.1 14 4 = nI p ∧ (b = true → p + wln w ≤ 120) → rr = some (.int (bi (b && wdM (M.1 15) p w m i))) ∧ ee = ce G M → Ev G C Y_Mod_isWord 32 [some (.ref (ex_b G + 71)), some (.ref (ex_sK G w)), some (.int (bi b)), some (.int (nI i))] [] 0 0 (ce G (M)) := by
  intro m
  induction m with
  | zero =>
    intro i M b hm hc he
    refine ev_iload_n rfl hC d_Mod_isWord_32 ?_
    refine ev_aload_n rfl hC d_Mod_isWord_33 ?_
    refine ct_1 hC d_Mod_isWord_34 (c_Str_length hw) mi_Str_length ml_Mod_240 im_Str_length se_Str_length rfl ⟨Nat.le_of_ble_eq_true rfl, Nat.le_of_ble_eq_true rfl⟩ ⟨Nat.le_of_ble_eq_true rfl, Nat.le_of_ble_eq_true rfl⟩ rfl rfl (Nat.le_of_ble_eq_true rfl) (by first | assumption | omega) ?_
    refine ev_icmp_ge 75 hC d_Mod_isWord_37 rfl (fun _ => ?_) (fun h => absurd (nI_le (by omega) (by have := wln_le w hw; omega)) h)
    refine ev_iload_n rfl hC d_Mod_isWord_75 ?_
    exact ev_zret hC hR d_Mod_isWord_76 rfl (by first | exact bi_nar _ | decide) (by rw [he.1, wdM, Bool.and_true]) (he.2)
  | succ m ih =>
    intro i M b hm hc he
    skip
    refine ev_iload_n rfl hC d_Mod_isWord_32 ?_
    refine ev_aload_n rfl hC d_Mod_isWord_33 ?_
    refine ct_1 hC d_Mod_isWord_34 (c_Str_length hw) mi_Str_length ml_Mod_240 im_Str_length se_Str_length rfl ⟨Nat.le_of_ble_eq_true rfl, Nat.le_of_ble_eq_true rfl⟩ ⟨Nat.le_of_ble_eq_true rfl, Nat.le_of_ble_eq_true rfl⟩ rfl rfl (Nat.le_of_ble_eq_true rfl) (by first | assumption | omega) ?_
    refine ev_icmp_ge 75 hC d_Mod_isWord_37 rfl (fun h => absurd h (nI_ge (by omega) (by have := wln_le w hw; omega))) (fun _ => ?_)
    refine ev_iload_n rfl hC d_Mod_isWord_40 ?_
    refine eb_eq 75 hC d_Mod_isWord_41 rfl (fun h_41 => ?_) (fun h_41 => ?_)
    · refine ev_iload_n rfl hC d_Mod_isWord_75 ?_
      exact ev_zret hC hR d_Mod_isWord_76 rfl (by first | exact bi_nar _ | decide) (by rw [he.1, h_41]; rfl) (he.2)
    · have hq := hc.2 h_41
      refine ev_aload_n rfl hC d_Mod_isWord_44 ?_
      refine gv_Mod_tape hC d_Mod_isWord_45 fl_Mod_26  ?_
      refine ev_aload_n rfl hC d_Mod_isWord_48 ?_
      refine gv_Mod_begins hC d_Mod_isWord_49 fl_Mod_228  ?_
      rw [hc.1]
      refine ev_iload_n rfl hC d_Mod_isWord_52 ?_
      refine ev_iadd hC d_Mod_isWord_53 ?_
      rw [nI_add]
      refine ga_tape hC d_Mod_isWord_54 (by first | assumption | omega) ?_
      refine ev_aload_n rfl hC d_Mod_isWord_55 ?_
      refine ev_iload_n rfl hC d_Mod_isWord_56 ?_
      refine ct_1 hC d_Mod_isWord_57 (c_Str_charAt hw (by omega)) mi_Str_charAt ml_Mod_243 im_Str_charAt se_Str_charAt rfl ⟨Nat.le_of_ble_eq_true rfl, Nat.le_of_ble_eq_true rfl⟩ ⟨Nat.le_of_ble_eq_true rfl, Nat.le_of_ble_eq_true rfl⟩ rfl rfl (Nat.le_of_ble_eq_true rfl) (by first | assumption | omega) ?_
      refine ev_icmp_ne 67 hC d_Mod_isWord_60 rfl (fun h_60 => ?_) (fun h_60 => ?_)
      · refine ev_iconst (v := 0) rfl hC d_Mod_isWord_67 ?_
        refine ev_istore_n (by decide) hC d_Mod_isWord_68 ?_
        refine ev_iinc rfl (by decide) (nI_1 _) hC d_Mod_isWord_69 ?_
        refine ev_goto 32 hC d_Mod_isWord_72 rfl ?_
        subst h_41
        refine Ev.to (ih (i + 1) M false (by omega) ⟨hc.1, fun _ => hc.2 rfl⟩ ?_) rfl rfl rfl
        rw [he.1, he.2, wdM, decide_eq_false h_60]
        simp only [Bool.false_and, Bool.true_and, Bool.and_false]
        exact ⟨trivial, trivial⟩
      · refine ev_iconst (v := 1) rfl hC d_Mod_isWord_63 ?_
        refine ev_goto 68 hC d_Mod_isWord_64 rfl ?_
        refine ev_istore_n (by decide) hC d_Mod_isWord_68 ?_
        refine ev_iinc rfl (by decide) (nI_1 _) hC d_Mod_isWord_69 ?_
        refine ev_goto 32 hC d_Mod_isWord_72 rfl ?_
        subst h_41
        refine Ev.to (ih (i + 1) M true (by omega) ⟨hc.1, fun _ => hc.2 rfl⟩ ?_) rfl rfl rfl
        rw [he.1, he.2, wdM, decide_eq_true h_60]
        simp only [Bool.false_and, Bool.true_and, Bool.and_false]
        exact ⟨trivial, trivial⟩

set_option maxHeartbeats 2000000 in
set_option maxRecDepth 10000 in
theorem c_Mod_isWord {G : ex_G} {M : ex_M} {w : Nat} (hw : w < 14) (h : RKI M) : Con G Y_Mod_isWord 4 85 0 0 [.ref (ex_b G + 71), .ref (ex_sK G w)] (ce G M) (some (.int (bi (isWR M w)))) (ce G (M)) := by
  refine Con.ofF (plainFor_of_name (by decide +kernel)) (Nat.le_of_ble_eq_true rfl) (fun C hC hR => ?_)
  show Ev G C Y_Mod_isWord 0 [some (.ref (ex_b G + 71)), some (.ref (ex_sK G w))] [] 0 0 (ce G M)
  obtain ⟨l, p, e, h1, h2, h3, h4, h5, h6, -, -⟩ := h
  have q1 : ix (M.1 14 5) - ix (M.1 14 4) = e - p := by rw [h3, h5, ix, ix, nI_clamp (by omega), nI_clamp (by omega)]
  have q2 : ix (M.1 14 4) = p := by rw [h3]; exact nI_clamp (by omega)
  refine ev_aload_n rfl hC d_Mod_isWord_0 ?_
  refine gv_Mod_sort hC d_Mod_isWord_1 fl_Mod_237  ?_
  refine ev_iconst (v := 1) rfl hC d_Mod_isWord_4 ?_
  refine ev_icmp_ne 28 hC d_Mod_isWord_5 rfl (fun h_5 => ?_) (fun h_5 => ?_)
  · refine ev_iconst (v := 0) rfl hC d_Mod_isWord_28 ?_
    refine ev_istore_n (by decide) hC d_Mod_isWord_29 ?_
    refine ev_iconst (v := nI 0) rfl hC d_Mod_isWord_30 ?_
    refine ev_istore_n (by decide) hC d_Mod_isWord_31 ?_
    refine Ev.to (lp_Mod_isWord (p := p) hw hC hR (wln w) 0 M false (by omega) ⟨h3, fun z => absurd z (by decide)⟩ ?_) rfl rfl rfl
    rw [isWR, decide_eq_false h_5]
    simp only [Bool.false_and, Bool.true_and, Bool.and_false]
    exact ⟨trivial, trivial⟩
  · refine ev_aload_n rfl hC d_Mod_isWord_8 ?_
    refine gv_Mod_ends hC d_Mod_isWord_9 fl_Mod_225  ?_
    refine ev_aload_n rfl hC d_Mod_isWord_12 ?_
    refine gv_Mod_begins hC d_Mod_isWord_13 fl_Mod_228  ?_
    refine ev_isub hC d_Mod_isWord_16 ?_
    rw [h3, h5, pk_sub h4]
    refine ev_aload_n rfl hC d_Mod_isWord_17 ?_
    refine ct_1 hC d_Mod_isWord_18 (c_Str_length hw) mi_Str_length ml_Mod_240 im_Str_length se_Str_length rfl ⟨Nat.le_of_ble_eq_true rfl, Nat.le_of_ble_eq_true rfl⟩ ⟨Nat.le_of_ble_eq_true rfl, Nat.le_of_ble_eq_true rfl⟩ rfl rfl (Nat.le_of_ble_eq_true rfl) (by first | assumption | omega) ?_
    refine ev_icmp_ne 28 hC d_Mod_isWord_21 rfl (fun h_21 => ?_) (fun h_21 => ?_)
    · refine ev_iconst (v := 0) rfl hC d_Mod_isWord_28 ?_
      refine ev_istore_n (by decide) hC d_Mod_isWord_29 ?_
      refine ev_iconst (v := nI 0) rfl hC d_Mod_isWord_30 ?_
      refine ev_istore_n (by decide) hC d_Mod_isWord_31 ?_
      refine Ev.to (lp_Mod_isWord (p := p) hw hC hR (wln w) 0 M false (by omega) ⟨h3, fun z => absurd z (by decide)⟩ ?_) rfl rfl rfl
      rw [isWR, q1, decide_eq_true h_5, decide_eq_false (fun z => h_21 (by rw [z]))]
      simp only [Bool.false_and, Bool.true_and, Bool.and_false]
      exact ⟨trivial, trivial⟩
    · refine ev_iconst (v := 1) rfl hC d_Mod_isWord_24 ?_
      refine ev_goto 29 hC d_Mod_isWord_25 rfl ?_
      refine ev_istore_n (by decide) hC d_Mod_isWord_29 ?_
      refine ev_iconst (v := nI 0) rfl hC d_Mod_isWord_30 ?_
      refine ev_istore_n (by decide) hC d_Mod_isWord_31 ?_
      have q3 : e - p = wln w := (nI_eq (by omega) (by have := wln_le w hw; omega)).mp h_21
      refine Ev.to (lp_Mod_isWord (p := p) hw hC hR (wln w) 0 M true (by omega) ⟨h3, fun _ => by omega⟩ ?_) rfl rfl rfl
      rw [isWR, q1, q2, decide_eq_true h_5, decide_eq_true q3]
      simp only [Bool.false_and, Bool.true_and, Bool.and_false]
      exact ⟨trivial, trivial⟩

set_option maxHeartbeats 2000000 in
set_option maxRecDepth 10000 in
theorem c_Mod_must {G : ex_G} {M : ex_M} {b : Bool} (h : RKI M) : Con G Y_Mod_must 2 43 0 0 [.ref (ex_b G + 71), .int (bi b)] (ce G M) (none) (ce G (mstR M b)) := by
  refine Con.ofF (plainFor_of_name (by decide +kernel)) (Nat.le_of_ble_eq_true rfl) (fun C hC hR => ?_)
  show Ev G C Y_Mod_must 0 [some (.ref (ex_b G + 71)), some (.int (bi b))] [] 0 0 (ce G M)
  refine ev_aload_n rfl hC d_Mod_must_0 ?_
  refine ev_aload_n rfl hC d_Mod_must_1 ?_
  refine gv_Mod_isWrong hC d_Mod_must_2 fl_Mod_247  ?_
  refine ev_if_ne 12 hC d_Mod_must_5 rfl (fun h_5 => ?_) (fun h_5 => ?_)
  · refine ev_iconst (v := 1) rfl hC d_Mod_must_12 ?_
    refine ev_goto 17 hC d_Mod_must_13 rfl ?_
    refine pv_Mod_isWrong (by first | exact Or.inl rfl | exact Or.inr rfl | exact bi_or _ | assumption) hC d_Mod_must_17 fl_Mod_247  ?_
    refine ev_aload_n rfl hC d_Mod_must_20 ?_
    refine gv_Mod_isWrong hC d_Mod_must_21 fl_Mod_247  ?_
    simp only [mJ, wr_s, ud_s]
    refine ev_if_ne 31 hC d_Mod_must_24 rfl (fun h_24 => ?_) (fun h_24 => ?_)
    · exact ev_vret hC hR d_Mod_must_31 rfl rfl (by first | exact absurd h_24 (by decide) | exact absurd rfl h_24 | (unfold mstR; rw [decide_eq_false h_5, Bool.and_false, cond_false]))
    · exact absurd h_24 (by decide)
  · refine ev_iload_n rfl hC d_Mod_must_8 ?_
    refine eb_ne 16 hC d_Mod_must_9 rfl (fun h_9 => ?_) (fun h_9 => ?_)
    · refine ev_iconst (v := 0) rfl hC d_Mod_must_16 ?_
      refine pv_Mod_isWrong (by first | exact Or.inl rfl | exact Or.inr rfl | exact bi_or _ | assumption) hC d_Mod_must_17 fl_Mod_247  ?_
      refine ev_aload_n rfl hC d_Mod_must_20 ?_
      refine gv_Mod_isWrong hC d_Mod_must_21 fl_Mod_247  ?_
      simp only [mJ, wr_s, ud_s]
      refine ev_if_ne 31 hC d_Mod_must_24 rfl (fun h_24 => ?_) (fun h_24 => ?_)
      · exact ev_vret hC hR d_Mod_must_31 rfl rfl (by first | exact absurd h_24 (by decide) | exact absurd rfl h_24 | (unfold mstR; rw [h_9, decide_eq_true h_5]; rfl))
      · refine Ev.to (?_ : Ev G C Y_Mod_must 27 _ [] 0 0 (ce G M)) rfl rfl (congrArg (ce G) (mJ_id h_5))
        refine ev_aload_n rfl hC d_Mod_must_27 ?_
        refine cv_Mod0 hC d_Mod_must_28 (c_next h) mi_Mod_next ml_Mod_251 im_Mod_next se_Mod_next rfl ⟨Nat.le_of_ble_eq_true rfl, Nat.le_of_ble_eq_true rfl⟩ ⟨Nat.le_of_ble_eq_true rfl, Nat.le_of_ble_eq_true rfl⟩ rfl rfl (Nat.le_of_ble_eq_true rfl) ?_
        exact ev_vret hC hR d_Mod_must_31 rfl rfl (by unfold mstR; rw [h_9, decide_eq_true h_5]; rfl)
    · refine ev_iconst (v := 1) rfl hC d_Mod_must_12 ?_
      refine ev_goto 17 hC d_Mod_must_13 rfl ?_
      refine pv_Mod_isWrong (by first | exact Or.inl rfl | exact Or.inr rfl | exact bi_or _ | assumption) hC d_Mod_must_17 fl_Mod_247  ?_
      refine ev_aload_n rfl hC d_Mod_must_20 ?_
      refine gv_Mod_isWrong hC d_Mod_must_21 fl_Mod_247  ?_
      simp only [mJ, wr_s, ud_s]
      refine ev_if_ne 31 hC d_Mod_must_24 rfl (fun h_24 => ?_) (fun h_24 => ?_)
      · exact ev_vret hC hR d_Mod_must_31 rfl rfl (by first | exact absurd h_24 (by decide) | exact absurd rfl h_24 | (unfold mstR; rw [h_9, Bool.false_and, cond_false]))
      · exact absurd h_24 (by decide)

set_option maxHeartbeats 2000000 in
set_option maxRecDepth 10000 in
theorem c_Mod_number {G : ex_G} {M : ex_M} {mx : Int32} (h : RKI M) : Con G Y_Mod_number 3 64 0 0 [.ref (ex_b G + 71), .int 0, .int mx] (ce G M) (some (.int (numR M mx).1)) (ce G ((numR M mx).2)) := by
  refine Con.ofF (plainFor_of_name (by decide +kernel)) (Nat.le_of_ble_eq_true rfl) (fun C hC hR => ?_)
  show Ev G C Y_Mod_number 0 [some (.ref (ex_b G + 71)), some (.int 0), some (.int mx)] [] 0 0 (ce G M)
  refine ev_aload_n rfl hC d_Mod_number_0 ?_
  refine gv_Mod_value hC d_Mod_number_1 fl_Mod_234  ?_
  refine ev_istore_n (by decide) hC d_Mod_number_4 ?_
  refine ev_aload_n rfl hC d_Mod_number_5 ?_
  refine ev_aload_n rfl hC d_Mod_number_6 ?_
  refine gv_Mod_sort hC d_Mod_number_7 fl_Mod_237  ?_
  refine ev_iconst (v := 2) rfl hC d_Mod_number_10 ?_
  refine ev_icmp_ne 27 hC d_Mod_number_11 rfl (fun h_11 => ?_) (fun h_11 => ?_)
  · refine ev_iconst (v := 0) rfl hC d_Mod_number_27 ?_
    refine cv_Mod0 hC d_Mod_number_28 (c_Mod_must (b := false) h) mi_Mod_must ml_Mod_254 im_Mod_must se_Mod_must rfl ⟨Nat.le_of_ble_eq_true rfl, Nat.le_of_ble_eq_true rfl⟩ ⟨Nat.le_of_ble_eq_true rfl, Nat.le_of_ble_eq_true rfl⟩ rfl rfl (Nat.le_of_ble_eq_true rfl)  ?_
    refine ev_iload_n rfl hC d_Mod_number_31 ?_
    exact ev_iret hC hR d_Mod_number_32 rfl (rfl) (by simp only [numR, decide_eq_false h_11, Bool.false_and, Bool.not_true, Bool.not_false, Bool.true_and, Bool.and_true, Bool.and_false])
  · refine ev_iload_n rfl hC d_Mod_number_14 ?_
    refine ev_iload_n rfl hC d_Mod_number_15 ?_
    refine ev_iload_n rfl hC d_Mod_number_16 ?_
    refine cs_1 hC d_Mod_number_17 (c_Mod_within ) mi_Mod_within ml_Mod_68 sm_Mod_within ⟨Nat.le_of_ble_eq_true rfl, Nat.le_of_ble_eq_true rfl⟩ ⟨Nat.le_of_ble_eq_true rfl, Nat.le_of_ble_eq_true rfl⟩ rfl rfl (Nat.le_of_ble_eq_true rfl) ?_
    refine en_eq 27 hC d_Mod_number_20 rfl (fun h_20 => ?_) (fun h_20 => ?_)
    · refine ev_iconst (v := 0) rfl hC d_Mod_number_27 ?_
      refine cv_Mod0 hC d_Mod_number_28 (c_Mod_must (b := false) h) mi_Mod_must ml_Mod_254 im_Mod_must se_Mod_must rfl ⟨Nat.le_of_ble_eq_true rfl, Nat.le_of_ble_eq_true rfl⟩ ⟨Nat.le_of_ble_eq_true rfl, Nat.le_of_ble_eq_true rfl⟩ rfl rfl (Nat.le_of_ble_eq_true rfl)  ?_
      refine ev_iload_n rfl hC d_Mod_number_31 ?_
      exact ev_iret hC hR d_Mod_number_32 rfl (rfl) (by simp only [numR, decide_eq_true h_11, h_20, Bool.not_true, Bool.not_false, Bool.true_and, Bool.and_true, Bool.and_false])
    · refine ev_iconst (v := 1) rfl hC d_Mod_number_23 ?_
      refine ev_goto 28 hC d_Mod_number_24 rfl ?_
      refine cv_Mod0 hC d_Mod_number_28 (c_Mod_must (b := true) h) mi_Mod_must ml_Mod_254 im_Mod_must se_Mod_must rfl ⟨Nat.le_of_ble_eq_true rfl, Nat.le_of_ble_eq_true rfl⟩ ⟨Nat.le_of_ble_eq_true rfl, Nat.le_of_ble_eq_true rfl⟩ rfl rfl (Nat.le_of_ble_eq_true rfl)  ?_
      refine ev_iload_n rfl hC d_Mod_number_31 ?_
      exact ev_iret hC hR d_Mod_number_32 rfl (rfl) (by simp only [numR, decide_eq_true h_11, h_20, Bool.not_true, Bool.not_false, Bool.true_and, Bool.and_true, Bool.and_false])

set_option maxHeartbeats 2000000 in
set_option maxRecDepth 10000 in
theorem c_Mod_isNext {G : ex_G} {M : ex_M} {w : Nat} (hw : w < 14) (h : RKI M) : Con G Y_Mod_isNext 5 108 0 0 [.ref (ex_b G + 71), .ref (ex_sK G w)] (ce G M) (some (.int (bi (isNxR M w).1))) (ce G ((isNxR M w).2)) := by
  refine Con.ofF (plainFor_of_name (by decide +kernel)) (Nat.le_of_ble_eq_true rfl) (fun C hC hR => ?_)
  show Ev G C Y_Mod_isNext 0 [some (.ref (ex_b G + 71)), some (.ref (ex_sK G w))] [] 0 0 (ce G M)
  refine ev_aload_n rfl hC d_Mod_isNext_0 ?_
  refine gv_Mod_isWrong hC d_Mod_isNext_1 fl_Mod_247  ?_
  refine ev_if_ne 19 hC d_Mod_isNext_4 rfl (fun h_4 => ?_) (fun h_4 => ?_)
  · refine ev_iconst (v := 0) rfl hC d_Mod_isNext_19 ?_
    refine ev_istore_n (by decide) hC d_Mod_isNext_20 ?_
    refine ev_iload_n rfl hC d_Mod_isNext_21 ?_
    refine ev_if_eq 30 hC d_Mod_isNext_22 rfl (fun h_22 => ?_) (fun h_22 => ?_)
    · refine ev_iload_n rfl hC d_Mod_isNext_30 ?_
      exact ev_zret hC hR d_Mod_isNext_31 rfl (by first | decide | exact absurd h_22 (by decide)) (by first | exact absurd h_22 (by decide) | exact absurd rfl h_22 | (simp only [isNxR, decide_eq_false h_4, Bool.false_and, cond_false]; rfl)) (by first | exact absurd h_22 (by decide) | exact absurd rfl h_22 | (simp only [isNxR, mstR, decide_eq_false h_4, Bool.false_and, cond_false]; done))
    · refine ev_aload_n rfl hC d_Mod_isNext_25 ?_
      refine ev_iconst (v := 1) rfl hC d_Mod_isNext_26 ?_
      refine cv_Mod0 hC d_Mod_isNext_27 (c_Mod_must (b := true) h) mi_Mod_must ml_Mod_254 im_Mod_must se_Mod_must rfl ⟨Nat.le_of_ble_eq_true rfl, Nat.le_of_ble_eq_true rfl⟩ ⟨Nat.le_of_ble_eq_true rfl, Nat.le_of_ble_eq_true rfl⟩ rfl rfl (Nat.le_of_ble_eq_true rfl)  ?_
      refine ev_iload_n rfl hC d_Mod_isNext_30 ?_
      exact ev_zret hC hR d_Mod_isNext_31 rfl (by first | decide | exact absurd h_22 (by decide)) (by first | exact absurd h_22 (by decide) | exact absurd rfl h_22 | (simp only [isNxR, decide_eq_false h_4, Bool.false_and, cond_false]; rfl)) (by first | exact absurd h_22 (by decide) | exact absurd rfl h_22 | (simp only [isNxR, mstR, decide_eq_false h_4, Bool.false_and, cond_false]; done))
  · refine ev_aload_n rfl hC d_Mod_isNext_7 ?_
    refine ev_aload_n rfl hC d_Mod_isNext_8 ?_
    refine cv_Mod1 hC d_Mod_isNext_9 (c_Mod_isWord hw h) mi_Mod_isWord ml_Mod_261 im_Mod_isWord se_Mod_isWord rfl ⟨Nat.le_of_ble_eq_true rfl, Nat.le_of_ble_eq_true rfl⟩ ⟨Nat.le_of_ble_eq_true rfl, Nat.le_of_ble_eq_true rfl⟩ rfl rfl (Nat.le_of_ble_eq_true rfl)  ?_
    refine eb_eq 19 hC d_Mod_isNext_12 rfl (fun h_12 => ?_) (fun h_12 => ?_)
    · refine ev_iconst (v := 0) rfl hC d_Mod_isNext_19 ?_
      refine ev_istore_n (by decide) hC d_Mod_isNext_20 ?_
      refine ev_iload_n rfl hC d_Mod_isNext_21 ?_
      refine ev_if_eq 30 hC d_Mod_isNext_22 rfl (fun h_22 => ?_) (fun h_22 => ?_)
      · refine ev_iload_n rfl hC d_Mod_isNext_30 ?_
        exact ev_zret hC hR d_Mod_isNext_31 rfl (by first | decide | exact absurd h_22 (by decide)) (by first | exact absurd h_22 (by decide) | exact absurd rfl h_22 | (simp only [isNxR, decide_eq_true h_4, h_12, Bool.true_and, cond_false]; rfl)) (by first | exact absurd h_22 (by decide) | exact absurd rfl h_22 | (simp only [isNxR, mstR, decide_eq_true h_4, h_12, Bool.true_and, cond_false]; done))
      · refine ev_aload_n rfl hC d_Mod_isNext_25 ?_
        refine ev_iconst (v := 1) rfl hC d_Mod_isNext_26 ?_
        refine cv_Mod0 hC d_Mod_isNext_27 (c_Mod_must (b := true) h) mi_Mod_must ml_Mod_254 im_Mod_must se_Mod_must rfl ⟨Nat.le_of_ble_eq_true rfl, Nat.le_of_ble_eq_true rfl⟩ ⟨Nat.le_of_ble_eq_true rfl, Nat.le_of_ble_eq_true rfl⟩ rfl rfl (Nat.le_of_ble_eq_true rfl)  ?_
        refine ev_iload_n rfl hC d_Mod_isNext_30 ?_
        exact ev_zret hC hR d_Mod_isNext_31 rfl (by first | decide | exact absurd h_22 (by decide)) (by first | exact absurd h_22 (by decide) | exact absurd rfl h_22 | (simp only [isNxR, decide_eq_true h_4, h_12, Bool.true_and, cond_false]; rfl)) (by first | exact absurd h_22 (by decide) | exact absurd rfl h_22 | (simp only [isNxR, mstR, decide_eq_true h_4, h_12, Bool.true_and, cond_false]; done))
    · refine ev_iconst (v := 1) rfl hC d_Mod_isNext_15 ?_
      refine ev_goto 20 hC d_Mod_isNext_16 rfl ?_
      refine ev_istore_n (by decide) hC d_Mod_isNext_20 ?_
      refine ev_iload_n rfl hC d_Mod_isNext_21 ?_
      refine ev_if_eq 30 hC d_Mod_isNext_22 rfl (fun h_22 => ?_) (fun h_22 => ?_)
      · refine ev_iload_n rfl hC d_Mod_isNext_30 ?_
        exact ev_zret hC hR d_Mod_isNext_31 rfl (by first | decide | exact absurd h_22 (by decide)) (by first | exact absurd h_22 (by decide) | exact absurd rfl h_22 | (simp only [isNxR, decide_eq_true h_4, h_12, Bool.true_and, cond_true]; rfl)) (by first | exact absurd h_22 (by decide) | exact absurd rfl h_22 | (simp only [isNxR, mstR, decide_eq_true h_4, h_12, Bool.true_and, cond_true]; done))
      · refine ev_aload_n rfl hC d_Mod_isNext_25 ?_
        refine ev_iconst (v := 1) rfl hC d_Mod_isNext_26 ?_
        refine cv_Mod0 hC d_Mod_isNext_27 (c_Mod_must (b := true) h) mi_Mod_must ml_Mod_254 im_Mod_must se_Mod_must rfl ⟨Nat.le_of_ble_eq_true rfl, Nat.le_of_ble_eq_true rfl⟩ ⟨Nat.le_of_ble_eq_true rfl, Nat.le_of_ble_eq_true rfl⟩ rfl rfl (Nat.le_of_ble_eq_true rfl)  ?_
        refine ev_iload_n rfl hC d_Mod_isNext_30 ?_
        exact ev_zret hC hR d_Mod_isNext_31 rfl (by first | decide | exact absurd h_22 (by decide)) (by first | exact absurd h_22 (by decide) | exact absurd rfl h_22 | (simp only [isNxR, decide_eq_true h_4, h_12, Bool.true_and, cond_true]; rfl)) (by first | exact absurd h_22 (by decide) | exact absurd rfl h_22 | (simp only [isNxR, mstR, decide_eq_true h_4, h_12, Bool.true_and, cond_true]; done))

set_option maxHeartbeats 2000000 in
set_option maxRecDepth 10000 in
theorem c_Mod_item {G : ex_G} {M : ex_M} {n : Nat} {x a b c d : Int32} (hn : n < 120) (hc : M.1 14 9 = nI n) : Con G Y_Mod_item 0 0 0 0 [.ref (ex_b G + 71), .int x, .int a, .int b, .int c, .int d] (ce G M) (none) (ce G (itmR M x a b c d)) := by
  refine Con.ofF (plainFor_of_name (by decide +kernel)) (Nat.le_of_ble_eq_true rfl) (fun C hC hR => ?_)
  show Ev G C Y_Mod_item 0 [some (.ref (ex_b G + 71)), some (.int x), some (.int a), some (.int b), some (.int c), some (.int d)] [] 0 0 (ce G M)
  refine ev_iconst (v := nI 5) rfl hC d_Mod_item_0 ?_
  refine ev_aload_n rfl hC d_Mod_item_1 ?_
  refine gv_Mod_itemMany hC d_Mod_item_2 fl_Mod_258  ?_
  rw [hc]
  refine ev_imul hC d_Mod_item_5 ?_
  rw [pk_mul]
  refine ev_istore (by decide) hC d_Mod_item_6 ?_
  refine ev_aload_n rfl hC d_Mod_item_8 ?_
  refine gv_Mod_items hC d_Mod_item_9 fl_Mod_47  ?_
  refine ev_iload rfl hC d_Mod_item_12 ?_
  refine ev_iload_n rfl hC d_Mod_item_14 ?_
  refine pa_items hC d_Mod_item_15 (by first | assumption | omega) ?_
  refine ev_aload_n rfl hC d_Mod_item_16 ?_
  refine gv_Mod_items hC d_Mod_item_17 fl_Mod_47  ?_
  refine ev_iload rfl hC d_Mod_item_20 ?_
  refine ev_iconst (v := nI 1) rfl hC d_Mod_item_22 ?_
  refine ev_iadd hC d_Mod_item_23 ?_
  rw [nI_add]
  refine ev_iload_n rfl hC d_Mod_item_24 ?_
  refine pa_items hC d_Mod_item_25 (by first | assumption | omega) ?_
  refine ev_aload_n rfl hC d_Mod_item_26 ?_
  refine gv_Mod_items hC d_Mod_item_27 fl_Mod_47  ?_
  refine ev_iload rfl hC d_Mod_item_30 ?_
  refine ev_iconst (v := nI 2) rfl hC d_Mod_item_32 ?_
  refine ev_iadd hC d_Mod_item_33 ?_
  rw [nI_add]
  refine ev_iload_n rfl hC d_Mod_item_34 ?_
  refine pa_items hC d_Mod_item_35 (by first | assumption | omega) ?_
  refine ev_aload_n rfl hC d_Mod_item_36 ?_
  refine gv_Mod_items hC d_Mod_item_37 fl_Mod_47  ?_
  refine ev_iload rfl hC d_Mod_item_40 ?_
  refine ev_iconst (v := nI 3) rfl hC d_Mod_item_42 ?_
  refine ev_iadd hC d_Mod_item_43 ?_
  rw [nI_add]
  refine ev_iload rfl hC d_Mod_item_44 ?_
  refine pa_items hC d_Mod_item_46 (by first | assumption | omega) ?_
  refine ev_aload_n rfl hC d_Mod_item_47 ?_
  refine gv_Mod_items hC d_Mod_item_48 fl_Mod_47  ?_
  refine ev_iload rfl hC d_Mod_item_51 ?_
  refine ev_iconst (v := nI 4) rfl hC d_Mod_item_53 ?_
  refine ev_iadd hC d_Mod_item_54 ?_
  rw [nI_add]
  refine ev_iload rfl hC d_Mod_item_55 ?_
  refine pa_items hC d_Mod_item_57 (by first | assumption | omega) ?_
  refine ev_aload_n rfl hC d_Mod_item_58 ?_
  refine ev_dup rfl hC d_Mod_item_59 ?_
  refine gv_Mod_itemMany hC d_Mod_item_60 fl_Mod_258  ?_
  refine ev_iconst (v := 1) rfl hC d_Mod_item_63 ?_
  refine ev_iadd hC d_Mod_item_64 ?_
  refine pv_Mod_itemMany hC d_Mod_item_65 fl_Mod_258  ?_
  exact ev_vret hC hR d_Mod_item_68 rfl rfl (by simp only [itmR, it5, mI, mJ, wr_wr, wr_s, wr_n (show (14 : Nat) ≠ 16 by decide), hc, nI_1, show ix (nI n) = n from nI_clamp (show n < 2 ^ 31 by omega)])

set_option maxHeartbeats 4000000 in
set_option maxRecDepth 10000 in
theorem lp_Mod_kindTold {G : ex_G} {C : ex_C} {rr : Option Value} {ee : List va_E}  (hC : Cx G C Y_Mod_kindTold { frames := 5, cells := 0, slots := 0, locals := 108 }) (hR : Cr G C Y_Mod_kindTold 0 0 rr ee) :
    ∀ (m i : Nat) (M : ex_M) (a : Int32), i + m = 6 → RKI M → rr = some (.int (kdL M m i a)) ∧ ee = ce G M → Ev G C Y_Mod_kindTold 4 [some (.ref (ex_b G + 71)), some (.int a), some (.int (nI i))] [] 0 0 (ce G (M)) := by
  intro m
  induction m with
  | zero =>
    intro i M a hm hc he
    refine ev_iload_n rfl hC d_Mod_kindTold_4 ?_
    refine ev_aload_n rfl hC d_Mod_kindTold_5 ?_
    refine gv_Mod_kinds hC d_Mod_kindTold_6 fl_Mod_43  ?_
    refine gl_kinds hC d_Mod_kindTold_9 ?_
    refine ev_icmp_ge 38 hC d_Mod_kindTold_10 rfl (fun _ => ?_) (fun h => absurd (by first | (rw [show (6 : Int32) = nI 6 from rfl]; exact nI_le (by omega) (by omega)) | exact nI_le (by omega) (by omega)) h)
    refine ev_iload_n rfl hC d_Mod_kindTold_38 ?_
    exact ev_iret hC hR d_Mod_kindTold_39 rfl (by rw [he.1, kdL]) (he.2)
  | succ m ih =>
    intro i M a hm hc he
    have hi : i < 6 := by omega
    refine ev_iload_n rfl hC d_Mod_kindTold_4 ?_
    refine ev_aload_n rfl hC d_Mod_kindTold_5 ?_
    refine gv_Mod_kinds hC d_Mod_kindTold_6 fl_Mod_43  ?_
    refine gl_kinds hC d_Mod_kindTold_9 ?_
    refine ev_icmp_ge 38 hC d_Mod_kindTold_10 rfl (fun h => absurd h (by first | (rw [show (6 : Int32) = nI 6 from rfl]; exact nI_ge (by omega) (by omega)) | exact nI_ge (by omega) (by omega))) (fun _ => ?_)
    refine ev_aload_n rfl hC d_Mod_kindTold_13 ?_
    refine ev_aload_n rfl hC d_Mod_kindTold_14 ?_
    refine gv_Mod_kinds hC d_Mod_kindTold_15 fl_Mod_43  ?_
    refine ev_iload_n rfl hC d_Mod_kindTold_18 ?_
    refine gr_kinds hC d_Mod_kindTold_19 (by first | assumption | omega) ?_
    refine cv_Mod1 hC d_Mod_kindTold_20 (c_Mod_isWord (w := i) (by omega) hc) mi_Mod_isWord ml_Mod_261 im_Mod_isWord se_Mod_isWord rfl ⟨Nat.le_of_ble_eq_true rfl, Nat.le_of_ble_eq_true rfl⟩ ⟨Nat.le_of_ble_eq_true rfl, Nat.le_of_ble_eq_true rfl⟩ rfl rfl (Nat.le_of_ble_eq_true rfl)  ?_
    refine eb_eq 30 hC d_Mod_kindTold_23 rfl (fun h_23 => ?_) (fun h_23 => ?_)
    · refine ev_iload_n rfl hC d_Mod_kindTold_30 ?_
      refine ev_istore_n (by decide) hC d_Mod_kindTold_31 ?_
      refine ev_iinc rfl (by decide) (nI_1 _) hC d_Mod_kindTold_32 ?_
      refine ev_goto 4 hC d_Mod_kindTold_35 rfl ?_
      exact ih (i + 1) M _ (by omega) hc (by rw [he.1, he.2, kdL, h_23]; exact ⟨rfl, rfl⟩)
    · refine ev_iload_n rfl hC d_Mod_kindTold_26 ?_
      refine ev_goto 31 hC d_Mod_kindTold_27 rfl ?_
      refine ev_istore_n (by decide) hC d_Mod_kindTold_31 ?_
      refine ev_iinc rfl (by decide) (nI_1 _) hC d_Mod_kindTold_32 ?_
      refine ev_goto 4 hC d_Mod_kindTold_35 rfl ?_
      exact ih (i + 1) M _ (by omega) hc (by rw [he.1, he.2, kdL, h_23]; exact ⟨rfl, rfl⟩)

set_option maxHeartbeats 2000000 in
set_option maxRecDepth 10000 in
theorem c_Mod_kindTold {G : ex_G} {M : ex_M} (h : RKI M) : Con G Y_Mod_kindTold 5 108 0 0 [.ref (ex_b G + 71)] (ce G M) (some (.int (kdL M 6 0 (-1)))) (ce G (M)) := by
  refine Con.ofF (plainFor_of_name (by decide +kernel)) (Nat.le_of_ble_eq_true rfl) (fun C hC hR => ?_)
  show Ev G C Y_Mod_kindTold 0 [some (.ref (ex_b G + 71))] [] 0 0 (ce G M)
  refine ev_iconst (v := -1) rfl hC d_Mod_kindTold_0 ?_
  refine ev_istore_n (by decide) hC d_Mod_kindTold_1 ?_
  refine ev_iconst (v := nI 0) rfl hC d_Mod_kindTold_2 ?_
  refine ev_istore_n (by decide) hC d_Mod_kindTold_3 ?_
  exact lp_Mod_kindTold hC hR 6 0 M _ (by omega) h ⟨rfl, rfl⟩
