/-! THE REFERENCE's HOUR on its row; aw: who is thought away -/
def HK (a : Nat → Int32) (np ne : Nat) : Prop := a 3 = nI np ∧ np ≤ 8 ∧ a 2 = nI ne ∧ ne ≤ 8 ∧ (∀ p, p < np → ∃ k, k < 6 ∧ a (28 + 7 * p + 0) = nI k) ∧ (∀ p, p < np → ∃ k, k < 256 ∧ a (28 + 7 * p + 6) = nI k)
theorem HK_of {a : Nat → Int32} {np ne : Nat} (w : WF a np ne) : HK a np ne := ⟨w.1, w.2.1, w.2.2.1, w.2.2.2.1, w.2.2.2.2.2⟩
def ther (aw : Int32) (i : Nat) : Bool := !decide (nI i = aw)
def fCrossR (aw c : Int32) (i : Nat) (b : Nat → Int32) : Nat → Int32 := if ther aw i = true ∧ wants b i c = true ∧ pays b i = true then oOvR b i else b
def fTelR (aw : Int32) (p o : Nat) (b : Nat → Int32) : Nat → Int32 := if ther aw o = true ∧ o ≠ p ∧ b (28 + 7 * o + 1) = b (28 + 7 * p + 1) then oTel b p o else b
def fTelP (aw : Int32) (np p : Nat) (b : Nat → Int32) : Nat → Int32 := if ther aw p = true ∧ undF 6 (b (28 + 7 * p + 0)) 3 = true then rp (fTelR aw p) np 0 b else b
def fMeetER (j e : Nat) (b : Nat → Int32) : Nat → Int32 := upd b (4 + 3 * e + 2) (if hs1 (b (28 + 7 * j + 6)) (nI e) = true ∧ ¬ 0 ≤ b (4 + 3 * e + 1) ∧ ¬ b (4 + 3 * e + 0) + 24 < b 0 then 1 else b (4 + 3 * e + 2))
def fMeetR (aw : Int32) (ne i : Nat) (b : Nat → Int32) : Nat → Int32 := if ther aw i = true ∧ b (28 + 7 * i + 0) = 4 ∧ b (28 + 7 * i + 1) = 1 then rp (fMeetER i) ne 0 b else b
def oLivR (b : Nat → Int32) (i e : Nat) : Nat → Int32 := upd (oPay b i (gainM (b (28 + 7 * i + 0)) (b (4 + 3 * e + 1)) (hs1 (b (28 + 7 * i + 6)) (nI e)))) (28 + 7 * i + 6) (b (28 + 7 * i + 6) ||| ((1 : Int32) <<< (nI e &&& 31)))
def fBefR (aw : Int32) (e : Nat) (k : Int32) (i : Nat) (b : Nat → Int32) : Nat → Int32 := if ther aw i = true ∧ b (28 + 7 * i + 1) = k then oLivR b i e else b
def fEv1 (aw : Int32) (np e : Nat) (b : Nat → Int32) : Nat → Int32 := if b (4 + 3 * e + 0) = b 0 then rp (fBefR aw e 0) np 0 b else b
def fEv2 (aw : Int32) (np e : Nat) (b : Nat → Int32) : Nat → Int32 := if b (4 + 3 * e + 0) + 24 = b 0 ∧ b (4 + 3 * e + 2) = 0 then rp (fBefR aw e 1) np 0 b else b
def fEvR (aw : Int32) (np e : Nat) (b : Nat → Int32) : Nat → Int32 := fEv2 aw np e (fEv1 aw np e b)
def hourR (aw : Int32) (np ne : Nat) (b : Nat → Int32) : Nat → Int32 :=
  let b1 := rp (fCrossR aw (b 0 - b 0 / 24 * 24)) np 0 b
  let b2 := rp (fTelP aw np) np 0 b1
  let b3 := rp (fMeetR aw ne) np 0 b2
  let b4 := rp (fEvR aw np) ne 0 b3
  upd b4 0 (b4 0 + 1)
/-- steps keep what they must: a list of facts on rows, carried along rounds -/
theorem rp_inv {f : Nat → (Nat → Int32) → (Nat → Int32)} {P : (Nat → Int32) → Prop} {n : Nat} (h : ∀ i b, i < n → P b → P (f i b)) : ∀ m i b, i + m ≤ n → P b → P (rp f m i b)
  | 0, _, _, _, hp => hp
  | m + 1, i, b, hm, hp => rp_inv h m (i + 1) (f i b) (by omega) (h i b (by omega) hp)
/-- a row that differs only where neither counts, nor kinds, nor knowledge stand -/
theorem HK_upd {a : Nat → Int32} {np ne k : Nat} {v : Int32} (h : HK a np ne) (h2 : k ≠ 2) (h3 : k ≠ 3) (hk : ∀ p, p < 8 → k ≠ 28 + 7 * p + 0 ∧ k ≠ 28 + 7 * p + 6) : HK (upd a k v) np ne := by
  obtain ⟨e1, e2, e3, e4, e5, e6⟩ := h
  refine ⟨by rw [ud_n (Ne.symm h3)]; exact e1, e2, by rw [ud_n (Ne.symm h2)]; exact e3, e4, fun p hp => ?_, fun p hp => ?_⟩
  · rw [ud_n (Ne.symm (hk p (by omega)).1)]; exact e5 p hp
  · rw [ud_n (Ne.symm (hk p (by omega)).2)]; exact e6 p hp
theorem HK_kn {a : Nat → Int32} {np ne i k : Nat} (h : HK a np ne) (hi : i < np) (hk : k < 256) : HK (upd a (28 + 7 * i + 6) (nI k)) np ne := by
  obtain ⟨e1, e2, e3, e4, e5, e6⟩ := h
  refine ⟨by rw [ud_n (by omega)]; exact e1, e2, by rw [ud_n (by omega)]; exact e3, e4, fun p hp => ?_, fun p hp => ?_⟩
  · rw [ud_n (by omega)]; exact e5 p hp
  · by_cases hpi : p = i
    · subst hpi; rw [ud_s]; exact ⟨k, hk, rfl⟩
    · rw [ud_n (by omega)]; exact e6 p hp
theorem HK_oPay {a : Nat → Int32} {np ne i : Nat} {v : Int32} (hi : i < 8) (h : HK a np ne) : HK (oPay a i v) np ne := HK_upd h (by omega) (by omega) (fun p hp => by omega)
theorem HK_oOvR {a : Nat → Int32} {np ne i : Nat} (hi : i < 8) (h : HK a np ne) : HK (oOvR a i) np ne := HK_upd (HK_upd (HK_oPay hi h) (by omega) (by omega) (fun p hp => by omega)) (by omega) (by omega) (fun p hp => by omega)
theorem HK_fCrossR {aw c : Int32} {a : Nat → Int32} {np ne i : Nat} (hi : i < 8) (h : HK a np ne) : HK (fCrossR aw c i a) np ne := by unfold fCrossR; split; exact HK_oOvR hi h; exact h
theorem HK_oTel {a : Nat → Int32} {np ne f t : Nat} (hf : f < np) (ht : t < np) (h : HK a np ne) : HK (oTel a f t) np ne := by
  obtain ⟨ka, hka, ea⟩ := h.2.2.2.2.2 f hf
  obtain ⟨kb, hkb, eb⟩ := h.2.2.2.2.2 t ht
  unfold oTel
  rw [ea, eb, fa_or]
  exact HK_kn h ht (or_small hkb hka)
theorem HK_fTelR {aw : Int32} {a : Nat → Int32} {np ne p o : Nat} (hp : p < np) (ho : o < np) (h : HK a np ne) : HK (fTelR aw p o a) np ne := by unfold fTelR; split; exact HK_oTel hp ho h; exact h
theorem HK_fTelP {aw : Int32} {a : Nat → Int32} {np ne p : Nat} (hp : p < np) (h : HK a np ne) : HK (fTelP aw np p a) np ne := by
  unfold fTelP
  split
  · exact rp_inv (P := fun b => HK b np ne) (n := np) (fun o b ho hb => HK_fTelR hp ho hb) np 0 a (by omega) h
  · exact h
theorem HK_fMeetER {a : Nat → Int32} {np ne j e : Nat} (he : e < 8) (h : HK a np ne) : HK (fMeetER j e a) np ne := HK_upd h (by omega) (by omega) (fun p hp => by omega)
theorem HK_fMeetR {aw : Int32} {a : Nat → Int32} {np ne i : Nat} (hne : ne ≤ 8) (h : HK a np ne) : HK (fMeetR aw ne i a) np ne := by
  unfold fMeetR
  split
  · exact rp_inv (P := fun b => HK b np ne) (n := 8) (fun o b ho hb => HK_fMeetER ho hb) ne 0 a (by omega) h
  · exact h
theorem HK_oLivR {a : Nat → Int32} {np ne i e : Nat} (hi : i < np) (he : e < 8) (h : HK a np ne) : HK (oLivR a i e) np ne := by
  obtain ⟨ka, hka, ea⟩ := h.2.2.2.2.2 i hi
  unfold oLivR
  rw [ea, one_shl e he, fa_or]
  exact HK_kn (HK_oPay (by have := h.2.1; omega) h) hi (or_small hka (Nat.pow_lt_pow_right (a := 2) (by omega) he))
theorem HK_fBefR {aw k : Int32} {a : Nat → Int32} {np ne i e : Nat} (hi : i < np) (he : e < 8) (h : HK a np ne) : HK (fBefR aw e k i a) np ne := by unfold fBefR; split; exact HK_oLivR hi he h; exact h
theorem HK_rpBefR {aw k : Int32} {a : Nat → Int32} {np ne e : Nat} (he : e < 8) (h : HK a np ne) : HK (rp (fBefR aw e k) np 0 a) np ne := rp_inv (P := fun b => HK b np ne) (n := np) (fun o b ho hb => HK_fBefR ho he hb) np 0 a (by omega) h
theorem HK_fEv1 {aw : Int32} {a : Nat → Int32} {np ne e : Nat} (he : e < 8) (h : HK a np ne) : HK (fEv1 aw np e a) np ne := by unfold fEv1; split; exact HK_rpBefR he h; exact h
theorem HK_fEv2 {aw : Int32} {a : Nat → Int32} {np ne e : Nat} (he : e < 8) (h : HK a np ne) : HK (fEv2 aw np e a) np ne := by unfold fEv2; split; exact HK_rpBefR he h; exact h
theorem HK_fEvR {aw : Int32} {a : Nat → Int32} {np ne e : Nat} (he : e < 8) (h : HK a np ne) : HK (fEvR aw np e a) np ne := HK_fEv2 he (HK_fEv1 he h)
theorem HK_b1 {aw c : Int32} {a : Nat → Int32} {np ne : Nat} (h : HK a np ne) : HK (rp (fCrossR aw c) np 0 a) np ne := rp_inv (P := fun b => HK b np ne) (n := np) (fun o b ho hb => HK_fCrossR (by have := h.2.1; omega) hb) np 0 a (by omega) h
theorem HK_b2 {aw : Int32} {a : Nat → Int32} {np ne : Nat} (h : HK a np ne) : HK (rp (fTelP aw np) np 0 a) np ne := rp_inv (P := fun b => HK b np ne) (n := np) (fun o b ho hb => HK_fTelP ho hb) np 0 a (by omega) h
theorem HK_b3 {aw : Int32} {a : Nat → Int32} {np ne : Nat} (h : HK a np ne) : HK (rp (fMeetR aw ne) np 0 a) np ne := rp_inv (P := fun b => HK b np ne) (n := np) (fun o b ho hb => HK_fMeetR h.2.2.2.1 hb) np 0 a (by omega) h
theorem HK_b4 {aw : Int32} {a : Nat → Int32} {np ne : Nat} (h : HK a np ne) : HK (rp (fEvR aw np) ne 0 a) np ne := rp_inv (P := fun b => HK b np ne) (n := 8) (fun o b ho hb => HK_fEvR ho hb) ne 0 a (by have := h.2.2.2.1; omega) h
theorem HK_hourR {aw : Int32} {a : Nat → Int32} {np ne : Nat} (h : HK a np ne) : HK (hourR aw np ne a) np ne := HK_upd (HK_b4 (HK_b3 (HK_b2 (HK_b1 h)))) (by omega) (by omega) (fun p hp => by omega)
def hoursR (aw : Int32) (np ne : Nat) : Nat → (Nat → Int32) → (Nat → Int32)
  | 0, b => b
  | n + 1, b => hoursR aw np ne n (hourR aw np ne b)
theorem HK_hoursR {aw : Int32} {np ne : Nat} : ∀ (n : Nat) (a : Nat → Int32), HK a np ne → HK (hoursR aw np ne n a) np ne
  | 0, _, h => h
  | n + 1, a, h => HK_hoursR n _ (HK_hourR h)
theorem popc_or (a b : Nat) : popc b ≤ popc (b ||| a) := by
  unfold popc
  apply List.countP_mono_left
  intro i _ h
  rw [Nat.testBit_or, h, Bool.true_or]
theorem telN_pos {a : Nat → Int32} {f t ka kb : Nat} (hka : ka < 256) (hkb : kb < 256) (ea : a (28 + 7 * f + 6) = nI ka) (eb : a (28 + 7 * t + 6) = nI kb) : ¬ telN a f t < 0 := by
  have h1 := popc_or ka kb
  have h2 := popc_le (kb ||| ka)
  simp only [telN, ea, eb, fa_or, ix]
  rw [nI_clamp (by have := or_small hkb hka; omega), nI_clamp (by omega), pk_sub h1]
  exact nI_pos (by omega)

set_option maxHeartbeats 2000000 in
set_option maxRecDepth 10000 in
theorem c_Mod_tells {G : ex_G} {M : ex_M} {np ne : Nat} {p q : Int32} (w : WF (M.1 10) np ne) : Con G Y_Mod_tells 3 66 0 0 [.ref (ex_b G + 71), .int p, .int q] (ce G M) (some (.int (R_tells M p q).1)) (ce G ((R_tells M p q).2)) := by
  refine Con.ofF (plainFor_of_name (by decide +kernel)) (Nat.le_of_ble_eq_true rfl) (fun C hC hR => ?_)
  show Ev G C Y_Mod_tells 0 [some (.ref (ex_b G + 71)), some (.int p), some (.int q)] [] 0 0 (ce G M)
  obtain ⟨hc, hn, hc2, hn2, hmet, hkd, hkn⟩ := w
  refine ev_aload_n rfl hC d_Mod_tells_0 ?_
  refine ev_iload_n rfl hC d_Mod_tells_1 ?_
  refine cv_Mod1 hC d_Mod_tells_2 (c_Mod_isOne ) mi_Mod_isOne ml_Mod_122 im_Mod_isOne se_Mod_isOne rfl ⟨Nat.le_of_ble_eq_true rfl, Nat.le_of_ble_eq_true rfl⟩ ⟨Nat.le_of_ble_eq_true rfl, Nat.le_of_ble_eq_true rfl⟩ rfl rfl (Nat.le_of_ble_eq_true rfl)  ?_
  refine en_eq 21 hC d_Mod_tells_5 rfl (fun h_5 => ?_) (fun h_5 => ?_)
  · refine ev_aload_n rfl hC d_Mod_tells_21 ?_
    refine ev_ldc kc_Mod_63 hC d_Mod_tells_22 ?_
    refine cv_Mod1 hC d_Mod_tells_24 (c_Mod_finding (k := 0) (by omega) (by decide +kernel)) mi_Mod_finding ml_Mod_82 im_Mod_finding se_Mod_finding rfl ⟨Nat.le_of_ble_eq_true rfl, Nat.le_of_ble_eq_true rfl⟩ ⟨Nat.le_of_ble_eq_true rfl, Nat.le_of_ble_eq_true rfl⟩ rfl rfl (Nat.le_of_ble_eq_true rfl)  ?_
    exact ev_iret hC hR d_Mod_tells_27 rfl (by simp only [R_tells, rbad, h_5, if_true, if_false, cond_true, cond_false, decide_true, decide_false, Bool.not_true, Bool.not_false, Bool.or_true, Bool.true_or, Bool.or_false, Bool.false_or, Bool.and_true, Bool.and_false, Bool.true_and, Bool.false_and, Bool.or_self, Bool.and_self, eq_self] <;> first | rfl | (rfl)) (by simp only [R_tells, rbad, h_5, if_true, if_false, cond_true, cond_false, decide_true, decide_false, Bool.not_true, Bool.not_false, Bool.or_true, Bool.true_or, Bool.or_false, Bool.false_or, Bool.and_true, Bool.and_false, Bool.true_and, Bool.false_and, Bool.or_self, Bool.and_self, eq_self] <;> first | rfl | (rfl))
  · refine ev_aload_n rfl hC d_Mod_tells_8 ?_
    refine ev_iload_n rfl hC d_Mod_tells_9 ?_
    refine cv_Mod1 hC d_Mod_tells_10 (c_Mod_isOne ) mi_Mod_isOne ml_Mod_122 im_Mod_isOne se_Mod_isOne rfl ⟨Nat.le_of_ble_eq_true rfl, Nat.le_of_ble_eq_true rfl⟩ ⟨Nat.le_of_ble_eq_true rfl, Nat.le_of_ble_eq_true rfl⟩ rfl rfl (Nat.le_of_ble_eq_true rfl)  ?_
    refine en_eq 21 hC d_Mod_tells_13 rfl (fun h_13 => ?_) (fun h_13 => ?_)
    · refine ev_aload_n rfl hC d_Mod_tells_21 ?_
      refine ev_ldc kc_Mod_63 hC d_Mod_tells_22 ?_
      refine cv_Mod1 hC d_Mod_tells_24 (c_Mod_finding (k := 0) (by omega) (by decide +kernel)) mi_Mod_finding ml_Mod_82 im_Mod_finding se_Mod_finding rfl ⟨Nat.le_of_ble_eq_true rfl, Nat.le_of_ble_eq_true rfl⟩ ⟨Nat.le_of_ble_eq_true rfl, Nat.le_of_ble_eq_true rfl⟩ rfl rfl (Nat.le_of_ble_eq_true rfl)  ?_
      exact ev_iret hC hR d_Mod_tells_27 rfl (by simp only [R_tells, rbad, h_5, h_13, if_true, if_false, cond_true, cond_false, decide_true, decide_false, Bool.not_true, Bool.not_false, Bool.or_true, Bool.true_or, Bool.or_false, Bool.false_or, Bool.and_true, Bool.and_false, Bool.true_and, Bool.false_and, Bool.or_self, Bool.and_self, eq_self] <;> first | rfl | (rfl)) (by simp only [R_tells, rbad, h_5, h_13, if_true, if_false, cond_true, cond_false, decide_true, decide_false, Bool.not_true, Bool.not_false, Bool.or_true, Bool.true_or, Bool.or_false, Bool.false_or, Bool.and_true, Bool.and_false, Bool.true_and, Bool.false_and, Bool.or_self, Bool.and_self, eq_self] <;> first | rfl | (rfl))
    · refine ev_iload_n rfl hC d_Mod_tells_16 ?_
      refine ev_iload_n rfl hC d_Mod_tells_17 ?_
      refine ev_icmp_ne 28 hC d_Mod_tells_18 rfl (fun h_18 => ?_) (fun h_18 => ?_)
      · obtain ⟨i, hi, rfl⟩ := out_ix hc hn h_5
        have ci : (nI i).toNatClampNeg = i := nI_clamp (by omega)
        obtain ⟨j, hj, rfl⟩ := out_ix hc hn h_13
        have cj : (nI j).toNatClampNeg = j := nI_clamp (by omega)
        obtain ⟨ka, hka, ea⟩ := hkn i hi
        obtain ⟨kb, hkb, eb⟩ := hkn j hj
        refine ev_aload_n rfl hC d_Mod_tells_28 ?_
        refine ev_iload_n rfl hC d_Mod_tells_29 ?_
        refine ev_iconst (v := nI 1) rfl hC d_Mod_tells_30 ?_
        refine cv_Mod1 hC d_Mod_tells_31 (c_Mod_oneIs (by omega) (by omega)) mi_Mod_oneIs ml_Mod_94 im_Mod_oneIs se_Mod_oneIs rfl ⟨Nat.le_of_ble_eq_true rfl, Nat.le_of_ble_eq_true rfl⟩ ⟨Nat.le_of_ble_eq_true rfl, Nat.le_of_ble_eq_true rfl⟩ rfl rfl (Nat.le_of_ble_eq_true rfl)  ?_
        refine ev_aload_n rfl hC d_Mod_tells_34 ?_
        refine ev_iload_n rfl hC d_Mod_tells_35 ?_
        refine ev_iconst (v := nI 1) rfl hC d_Mod_tells_36 ?_
        refine cv_Mod1 hC d_Mod_tells_37 (c_Mod_oneIs (by omega) (by omega)) mi_Mod_oneIs ml_Mod_94 im_Mod_oneIs se_Mod_oneIs rfl ⟨Nat.le_of_ble_eq_true rfl, Nat.le_of_ble_eq_true rfl⟩ ⟨Nat.le_of_ble_eq_true rfl, Nat.le_of_ble_eq_true rfl⟩ rfl rfl (Nat.le_of_ble_eq_true rfl)  ?_
        refine ev_icmp_ne 52 hC d_Mod_tells_40 rfl (fun h_40 => ?_) (fun h_40 => ?_)
        · refine ev_aload_n rfl hC d_Mod_tells_52 ?_
          refine ev_ldc kc_Mod_149 hC d_Mod_tells_53 ?_
          refine cv_Mod1 hC d_Mod_tells_55 (c_Mod_finding (k := 4) (by omega) (by decide +kernel)) mi_Mod_finding ml_Mod_82 im_Mod_finding se_Mod_finding rfl ⟨Nat.le_of_ble_eq_true rfl, Nat.le_of_ble_eq_true rfl⟩ ⟨Nat.le_of_ble_eq_true rfl, Nat.le_of_ble_eq_true rfl⟩ rfl rfl (Nat.le_of_ble_eq_true rfl)  ?_
          exact ev_iret hC hR d_Mod_tells_58 rfl (by simp only [R_tells, rbad, h_5, h_13, h_18, h_40, ix, ci, cj, if_true, if_false, cond_true, cond_false, decide_true, decide_false, Bool.not_true, Bool.not_false, Bool.or_true, Bool.true_or, Bool.or_false, Bool.false_or, Bool.and_true, Bool.and_false, Bool.true_and, Bool.false_and, Bool.or_self, Bool.and_self, eq_self] <;> rfl) (by simp only [R_tells, rbad, h_5, h_13, h_18, h_40, ix, ci, cj, if_true, if_false, cond_true, cond_false, decide_true, decide_false, Bool.not_true, Bool.not_false, Bool.or_true, Bool.true_or, Bool.or_false, Bool.false_or, Bool.and_true, Bool.and_false, Bool.true_and, Bool.false_and, Bool.or_self, Bool.and_self, eq_self] <;> rfl)
        · refine ev_aload_n rfl hC d_Mod_tells_43 ?_
          refine ev_iload_n rfl hC d_Mod_tells_44 ?_
          refine ev_iload_n rfl hC d_Mod_tells_45 ?_
          refine cv_Mod1 hC d_Mod_tells_46 (c_Mod_told (by omega) (by omega) hka hkb ea eb) mi_Mod_told ml_Mod_157 im_Mod_told se_Mod_told rfl ⟨Nat.le_of_ble_eq_true rfl, Nat.le_of_ble_eq_true rfl⟩ ⟨Nat.le_of_ble_eq_true rfl, Nat.le_of_ble_eq_true rfl⟩ rfl rfl (Nat.le_of_ble_eq_true rfl)  ?_
          refine ev_goto 58 hC d_Mod_tells_49 rfl ?_
          exact ev_iret hC hR d_Mod_tells_58 rfl (by simp only [R_tells, rbad, h_5, h_13, h_18, h_40, ix, ci, cj, if_true, if_false, cond_true, cond_false, decide_true, decide_false, Bool.not_true, Bool.not_false, Bool.or_true, Bool.true_or, Bool.or_false, Bool.false_or, Bool.and_true, Bool.and_false, Bool.true_and, Bool.false_and, Bool.or_self, Bool.and_self, eq_self] <;> rfl) (by simp only [R_tells, rbad, h_5, h_13, h_18, h_40, ix, ci, cj, if_true, if_false, cond_true, cond_false, decide_true, decide_false, Bool.not_true, Bool.not_false, Bool.or_true, Bool.true_or, Bool.or_false, Bool.false_or, Bool.and_true, Bool.and_false, Bool.true_and, Bool.false_and, Bool.or_self, Bool.and_self, eq_self] <;> rfl)
      · refine ev_aload_n rfl hC d_Mod_tells_21 ?_
        refine ev_ldc kc_Mod_63 hC d_Mod_tells_22 ?_
        refine cv_Mod1 hC d_Mod_tells_24 (c_Mod_finding (k := 0) (by omega) (by decide +kernel)) mi_Mod_finding ml_Mod_82 im_Mod_finding se_Mod_finding rfl ⟨Nat.le_of_ble_eq_true rfl, Nat.le_of_ble_eq_true rfl⟩ ⟨Nat.le_of_ble_eq_true rfl, Nat.le_of_ble_eq_true rfl⟩ rfl rfl (Nat.le_of_ble_eq_true rfl)  ?_
        exact ev_iret hC hR d_Mod_tells_27 rfl (by simp only [R_tells, rbad, h_5, h_13, h_18, if_true, if_false, cond_true, cond_false, decide_true, decide_false, Bool.not_true, Bool.not_false, Bool.or_true, Bool.true_or, Bool.or_false, Bool.false_or, Bool.and_true, Bool.and_false, Bool.true_and, Bool.false_and, Bool.or_self, Bool.and_self, eq_self] <;> first | rfl | (rfl)) (by simp only [R_tells, rbad, h_5, h_13, h_18, if_true, if_false, cond_true, cond_false, decide_true, decide_false, Bool.not_true, Bool.not_false, Bool.or_true, Bool.true_or, Bool.or_false, Bool.false_or, Bool.and_true, Bool.and_false, Bool.true_and, Bool.false_and, Bool.or_self, Bool.and_self, eq_self] <;> first | rfl | (rfl))

set_option maxHeartbeats 2000000 in
set_option maxRecDepth 10000 in
theorem c_Mod_isThere {G : ex_G} {M : ex_M} {i : Nat} : Con G Y_Mod_isThere 0 0 0 0 [.ref (ex_b G + 71), .int (nI i)] (ce G M) (some (.int (bi (ther (M.1 14 1) i)))) (ce G (M)) := by
  refine Con.ofF (plainFor_of_name (by decide +kernel)) (Nat.le_of_ble_eq_true rfl) (fun C hC hR => ?_)
  show Ev G C Y_Mod_isThere 0 [some (.ref (ex_b G + 71)), some (.int (nI i))] [] 0 0 (ce G M)
  refine ev_iload_n rfl hC d_Mod_isThere_0 ?_
  refine ev_aload_n rfl hC d_Mod_isThere_1 ?_
  refine gv_Mod_away hC d_Mod_isThere_2 fl_Mod_22  ?_
  refine ev_icmp_eq 12 hC d_Mod_isThere_5 rfl (fun h_5 => ?_) (fun h_5 => ?_)
  · refine ev_iconst (v := 0) rfl hC d_Mod_isThere_12 ?_
    exact ev_zret hC hR d_Mod_isThere_13 rfl (by first | exact bi_nar _ | decide) (by simp [ther, bi, h_5]) (rfl)
  · refine ev_iconst (v := 1) rfl hC d_Mod_isThere_8 ?_
    refine ev_goto 13 hC d_Mod_isThere_9 rfl ?_
    exact ev_zret hC hR d_Mod_isThere_13 rfl (by first | exact bi_nar _ | decide) (by simp [ther, bi, h_5]) (rfl)

set_option maxHeartbeats 4000000 in
set_option maxRecDepth 10000 in
theorem lp_Mod_tell2 {G : ex_G} {C : ex_C} {ee : List va_E} {aw : Int32} {n ne p k : Nat} (hp : p < n) (hn : n ≤ 8) (hK : ∀ M : ex_M, M.1 14 1 = aw → HK (M.1 10) n ne → ee = ce G (mI M 10 (rp (fTelP aw n) k (p + 1) (M.1 10))) → Ev G C Y_Mod_tellersTell 112 [some (.ref (ex_b G + 71)), some (.int (nI p))] [] 0 0 (ce G M)) (hC : Cx G C Y_Mod_tellersTell { frames := 3, cells := 0, slots := 0, locals := 66 }) (hR : Cr G C Y_Mod_tellersTell 0 0 none ee) :
    ∀ (m i : Nat) (M : ex_M), i + m = n → M.1 14 1 = aw ∧ HK (M.1 10) n ne → ee = ce G (mI M 10 (rp (fTelP aw n) k (p + 1) (rp (fTelR aw p) m i (M.1 10)))) → Ev G C Y_Mod_tellersTell 41 [some (.ref (ex_b G + 71)), some (.int (nI p)), some (.int 1), some (.int (nI i))] [] 0 0 (ce G (M)) := by
  intro m
  induction m with
  | zero =>
    intro i M hm hc he
    refine ev_iload_n rfl hC d_Mod_tellersTell_41 ?_
    refine ev_aload_n rfl hC d_Mod_tellersTell_42 ?_
    refine gv_Mod_now hC d_Mod_tellersTell_43 fl_Mod_9  ?_
    refine ev_iconst (v := nI 3) rfl hC d_Mod_tellersTell_46 ?_
    refine ga_now hC d_Mod_tellersTell_47 (by first | assumption | omega) ?_
    refine ev_icmp_ge 112 hC d_Mod_tellersTell_48 rfl (fun _ => ?_) (fun h => absurd (by rw [hc.2.1]; exact nI_le (by omega) (by omega)) h)
    refine Ev.take 2 ?_
    exact hK M hc.1 hc.2 (by rw [he, rp])
  | succ m ih =>
    intro i M hm hc he
    have hin : i < n := by omega
    have hi : i < 8 := by omega
    refine ev_iload_n rfl hC d_Mod_tellersTell_41 ?_
    refine ev_aload_n rfl hC d_Mod_tellersTell_42 ?_
    refine gv_Mod_now hC d_Mod_tellersTell_43 fl_Mod_9  ?_
    refine ev_iconst (v := nI 3) rfl hC d_Mod_tellersTell_46 ?_
    refine ga_now hC d_Mod_tellersTell_47 (by first | assumption | omega) ?_
    refine ev_icmp_ge 112 hC d_Mod_tellersTell_48 rfl (fun h => absurd h (by rw [hc.2.1]; exact nI_ge (by omega) (by omega))) (fun _ => ?_)
    refine ev_iload_n rfl hC d_Mod_tellersTell_51 ?_
    refine ev_if_eq 112 hC d_Mod_tellersTell_52 rfl (fun h => absurd h (by decide)) (fun _ => ?_)
    refine ev_aload_n rfl hC d_Mod_tellersTell_55 ?_
    refine ev_iload_n rfl hC d_Mod_tellersTell_56 ?_
    refine cv_Mod1 hC d_Mod_tellersTell_57 (c_Mod_isThere ) mi_Mod_isThere ml_Mod_160 im_Mod_isThere se_Mod_isThere rfl ⟨Nat.le_of_ble_eq_true rfl, Nat.le_of_ble_eq_true rfl⟩ ⟨Nat.le_of_ble_eq_true rfl, Nat.le_of_ble_eq_true rfl⟩ rfl rfl (Nat.le_of_ble_eq_true rfl)  ?_
    refine eb_eq 92 hC d_Mod_tellersTell_60 rfl (fun h_60 => ?_) (fun h_60 => ?_)
    · refine ev_iconst (v := 0) rfl hC d_Mod_tellersTell_92 ?_
      refine ev_istore (by decide) hC d_Mod_tellersTell_93 ?_
      refine ev_iload rfl hC d_Mod_tellersTell_95 ?_
      refine ev_if_lt 104 hC d_Mod_tellersTell_97 rfl (fun h => absurd h (by decide)) (fun _ => ?_)
      refine ev_iconst (v := 1) rfl hC d_Mod_tellersTell_100 ?_
      refine ev_goto 105 hC d_Mod_tellersTell_101 rfl ?_
      refine ev_istore_n (by decide) hC d_Mod_tellersTell_105 ?_
      refine ev_iinc rfl (by decide) (nI_1 _) hC d_Mod_tellersTell_106 ?_
      refine ev_goto 41 hC d_Mod_tellersTell_109 rfl ?_
      refine Ev.take 4 ?_
      rw [hc.1] at h_60
      exact ih (i + 1) M (by omega) hc (by rw [he, rp, show fTelR aw p i (M.1 10) = M.1 10 from if_neg (fun z => by rw [z.1] at h_60; cases h_60)])
    · refine ev_iload_n rfl hC d_Mod_tellersTell_63 ?_
      refine ev_iload_n rfl hC d_Mod_tellersTell_64 ?_
      refine ev_icmp_eq 92 hC d_Mod_tellersTell_65 rfl (fun h_65 => ?_) (fun h_65 => ?_)
      · refine ev_iconst (v := 0) rfl hC d_Mod_tellersTell_92 ?_
        refine ev_istore (by decide) hC d_Mod_tellersTell_93 ?_
        refine ev_iload rfl hC d_Mod_tellersTell_95 ?_
        refine ev_if_lt 104 hC d_Mod_tellersTell_97 rfl (fun h => absurd h (by decide)) (fun _ => ?_)
        refine ev_iconst (v := 1) rfl hC d_Mod_tellersTell_100 ?_
        refine ev_goto 105 hC d_Mod_tellersTell_101 rfl ?_
        refine ev_istore_n (by decide) hC d_Mod_tellersTell_105 ?_
        refine ev_iinc rfl (by decide) (nI_1 _) hC d_Mod_tellersTell_106 ?_
        refine ev_goto 41 hC d_Mod_tellersTell_109 rfl ?_
        refine Ev.take 4 ?_
        rw [hc.1] at h_60
        exact ih (i + 1) M (by omega) hc (by rw [he, rp, show fTelR aw p i (M.1 10) = M.1 10 from if_neg (fun z => z.2.1 ((nI_eq (by omega) (by omega)).mp h_65))])
      · refine ev_aload_n rfl hC d_Mod_tellersTell_68 ?_
        refine ev_iload_n rfl hC d_Mod_tellersTell_69 ?_
        refine ev_iconst (v := nI 1) rfl hC d_Mod_tellersTell_70 ?_
        refine cv_Mod1 hC d_Mod_tellersTell_71 (c_Mod_oneIs (by omega) (by omega)) mi_Mod_oneIs ml_Mod_94 im_Mod_oneIs se_Mod_oneIs rfl ⟨Nat.le_of_ble_eq_true rfl, Nat.le_of_ble_eq_true rfl⟩ ⟨Nat.le_of_ble_eq_true rfl, Nat.le_of_ble_eq_true rfl⟩ rfl rfl (Nat.le_of_ble_eq_true rfl)  ?_
        refine ev_aload_n rfl hC d_Mod_tellersTell_74 ?_
        refine ev_iload_n rfl hC d_Mod_tellersTell_75 ?_
        refine ev_iconst (v := nI 1) rfl hC d_Mod_tellersTell_76 ?_
        refine cv_Mod1 hC d_Mod_tellersTell_77 (c_Mod_oneIs (by omega) (by omega)) mi_Mod_oneIs ml_Mod_94 im_Mod_oneIs se_Mod_oneIs rfl ⟨Nat.le_of_ble_eq_true rfl, Nat.le_of_ble_eq_true rfl⟩ ⟨Nat.le_of_ble_eq_true rfl, Nat.le_of_ble_eq_true rfl⟩ rfl rfl (Nat.le_of_ble_eq_true rfl)  ?_
        refine ev_icmp_ne 92 hC d_Mod_tellersTell_80 rfl (fun h_80 => ?_) (fun h_80 => ?_)
        · refine ev_iconst (v := 0) rfl hC d_Mod_tellersTell_92 ?_
          refine ev_istore (by decide) hC d_Mod_tellersTell_93 ?_
          refine ev_iload rfl hC d_Mod_tellersTell_95 ?_
          refine ev_if_lt 104 hC d_Mod_tellersTell_97 rfl (fun h => absurd h (by decide)) (fun _ => ?_)
          refine ev_iconst (v := 1) rfl hC d_Mod_tellersTell_100 ?_
          refine ev_goto 105 hC d_Mod_tellersTell_101 rfl ?_
          refine ev_istore_n (by decide) hC d_Mod_tellersTell_105 ?_
          refine ev_iinc rfl (by decide) (nI_1 _) hC d_Mod_tellersTell_106 ?_
          refine ev_goto 41 hC d_Mod_tellersTell_109 rfl ?_
          refine Ev.take 4 ?_
          rw [hc.1] at h_60
          exact ih (i + 1) M (by omega) hc (by rw [he, rp, show fTelR aw p i (M.1 10) = M.1 10 from if_neg (fun z => h_80 z.2.2)])
        · obtain ⟨ka, hka, ea⟩ := hc.2.2.2.2.2.2 p hp
          obtain ⟨kb, hkb, eb⟩ := hc.2.2.2.2.2.2 i hin
          refine ev_aload_n rfl hC d_Mod_tellersTell_83 ?_
          refine ev_iload_n rfl hC d_Mod_tellersTell_84 ?_
          refine ev_iload_n rfl hC d_Mod_tellersTell_85 ?_
          refine cv_Mod1 hC d_Mod_tellersTell_86 (c_Mod_told (by omega) (by omega) hka hkb ea eb) mi_Mod_told ml_Mod_157 im_Mod_told se_Mod_told rfl ⟨Nat.le_of_ble_eq_true rfl, Nat.le_of_ble_eq_true rfl⟩ ⟨Nat.le_of_ble_eq_true rfl, Nat.le_of_ble_eq_true rfl⟩ rfl rfl (Nat.le_of_ble_eq_true rfl)  ?_
          refine ev_goto 93 hC d_Mod_tellersTell_89 rfl ?_
          refine ev_istore (by decide) hC d_Mod_tellersTell_93 ?_
          refine ev_iload rfl hC d_Mod_tellersTell_95 ?_
          refine ev_if_lt 104 hC d_Mod_tellersTell_97 rfl (fun h => absurd h (telN_pos hka hkb ea eb)) (fun _ => ?_)
          refine ev_iconst (v := 1) rfl hC d_Mod_tellersTell_100 ?_
          refine ev_goto 105 hC d_Mod_tellersTell_101 rfl ?_
          refine ev_istore_n (by decide) hC d_Mod_tellersTell_105 ?_
          refine ev_iinc rfl (by decide) (nI_1 _) hC d_Mod_tellersTell_106 ?_
          refine ev_goto 41 hC d_Mod_tellersTell_109 rfl ?_
          refine Ev.take 4 ?_
          refine ih (i + 1) _ (by omega) ⟨hc.1, by simp only [mI, wr_s]; exact HK_oTel hp hin hc.2⟩ ?_
          rw [hc.1] at h_60
          rw [he, rp, show fTelR aw p i (M.1 10) = oTel (M.1 10) p i from if_pos ⟨h_60, fun z => h_65 (by rw [z]), h_80⟩]
          simp only [mI, wr_wr, wr_s]

set_option maxHeartbeats 4000000 in
set_option maxRecDepth 10000 in
theorem lp_Mod_tell1 {G : ex_G} {C : ex_C} {ee : List va_E} {aw : Int32} {n ne : Nat} (hn : n ≤ 8) (hC : Cx G C Y_Mod_tellersTell { frames := 3, cells := 0, slots := 0, locals := 66 }) (hR : Cr G C Y_Mod_tellersTell 0 0 none ee) :
    ∀ (m i : Nat) (M : ex_M), i + m = n → M.1 14 1 = aw ∧ HK (M.1 10) n ne → ee = ce G (mI M 10 (rp (fTelP aw n) m i (M.1 10))) → Ev G C Y_Mod_tellersTell 2 [some (.ref (ex_b G + 71)), some (.int (nI i))] [] 0 0 (ce G (M)) := by
  intro m
  induction m with
  | zero =>
    intro i M hm hc he
    refine ev_iload_n rfl hC d_Mod_tellersTell_2 ?_
    refine ev_aload_n rfl hC d_Mod_tellersTell_3 ?_
    refine gv_Mod_now hC d_Mod_tellersTell_4 fl_Mod_9  ?_
    refine ev_iconst (v := nI 3) rfl hC d_Mod_tellersTell_7 ?_
    refine ga_now hC d_Mod_tellersTell_8 (by first | assumption | omega) ?_
    refine ev_icmp_ge 118 hC d_Mod_tellersTell_9 rfl (fun _ => ?_) (fun h => absurd (by rw [hc.2.1]; exact nI_le (by omega) (by omega)) h)
    exact ev_vret hC hR d_Mod_tellersTell_118 rfl rfl (by rw [he, rp, mI_id])
  | succ m ih =>
    intro i M hm hc he
    have hin : i < n := by omega
    have hi : i < 8 := by omega
    obtain ⟨kk, hk6, ek⟩ := hc.2.2.2.2.2.1 i hin
    refine ev_iload_n rfl hC d_Mod_tellersTell_2 ?_
    refine ev_aload_n rfl hC d_Mod_tellersTell_3 ?_
    refine gv_Mod_now hC d_Mod_tellersTell_4 fl_Mod_9  ?_
    refine ev_iconst (v := nI 3) rfl hC d_Mod_tellersTell_7 ?_
    refine ga_now hC d_Mod_tellersTell_8 (by first | assumption | omega) ?_
    refine ev_icmp_ge 118 hC d_Mod_tellersTell_9 rfl (fun h => absurd h (by rw [hc.2.1]; exact nI_ge (by omega) (by omega))) (fun _ => ?_)
    refine ev_aload_n rfl hC d_Mod_tellersTell_12 ?_
    refine ev_iload_n rfl hC d_Mod_tellersTell_13 ?_
    refine cv_Mod1 hC d_Mod_tellersTell_14 (c_Mod_isThere ) mi_Mod_isThere ml_Mod_160 im_Mod_isThere se_Mod_isThere rfl ⟨Nat.le_of_ble_eq_true rfl, Nat.le_of_ble_eq_true rfl⟩ ⟨Nat.le_of_ble_eq_true rfl, Nat.le_of_ble_eq_true rfl⟩ rfl rfl (Nat.le_of_ble_eq_true rfl)  ?_
    refine eb_eq 37 hC d_Mod_tellersTell_17 rfl (fun h_17 => ?_) (fun h_17 => ?_)
    · refine ev_iconst (v := 0) rfl hC d_Mod_tellersTell_37 ?_
      refine ev_istore_n (by decide) hC d_Mod_tellersTell_38 ?_
      rw [hc.1] at h_17
      refine ev_iconst (v := nI 0) rfl hC d_Mod_tellersTell_39 ?_
      refine ev_istore_n (by decide) hC d_Mod_tellersTell_40 ?_
      refine ev_iload_n rfl hC d_Mod_tellersTell_41 ?_
      refine ev_aload_n rfl hC d_Mod_tellersTell_42 ?_
      refine gv_Mod_now hC d_Mod_tellersTell_43 fl_Mod_9 ?_
      refine ev_iconst (v := nI 3) rfl hC d_Mod_tellersTell_46 ?_
      refine ga_now hC d_Mod_tellersTell_47 (by omega) ?_
      refine ev_icmp_ge 112 hC d_Mod_tellersTell_48 rfl (fun _ => ?_) (fun _ => ?_)
      · refine Ev.take 2 ?_
        refine ev_iinc rfl (by decide) (nI_1 _) hC d_Mod_tellersTell_112 ?_
        refine ev_goto 2 hC d_Mod_tellersTell_115 rfl ?_
        exact ih (i + 1) M (by omega) hc (by rw [he, rp, show fTelP aw n i (M.1 10) = M.1 10 from if_neg (fun z => by rw [z.1] at h_17; cases h_17)])
      · refine ev_iload_n rfl hC d_Mod_tellersTell_51 ?_
        refine ev_if_eq 112 hC d_Mod_tellersTell_52 rfl (fun _ => ?_) (fun h => absurd rfl h)
        refine Ev.take 2 ?_
        refine ev_iinc rfl (by decide) (nI_1 _) hC d_Mod_tellersTell_112 ?_
        refine ev_goto 2 hC d_Mod_tellersTell_115 rfl ?_
        exact ih (i + 1) M (by omega) hc (by rw [he, rp, show fTelP aw n i (M.1 10) = M.1 10 from if_neg (fun z => by rw [z.1] at h_17; cases h_17)])
    · refine ev_aload_n rfl hC d_Mod_tellersTell_20 ?_
      refine ev_iload_n rfl hC d_Mod_tellersTell_21 ?_
      refine ev_iconst (v := nI 0) rfl hC d_Mod_tellersTell_22 ?_
      refine cv_Mod1 hC d_Mod_tellersTell_23 (c_Mod_oneIs (by omega) (by omega)) mi_Mod_oneIs ml_Mod_94 im_Mod_oneIs se_Mod_oneIs rfl ⟨Nat.le_of_ble_eq_true rfl, Nat.le_of_ble_eq_true rfl⟩ ⟨Nat.le_of_ble_eq_true rfl, Nat.le_of_ble_eq_true rfl⟩ rfl rfl (Nat.le_of_ble_eq_true rfl)  ?_
      refine ev_iconst (v := 3) rfl hC d_Mod_tellersTell_26 ?_
      refine cs_1 hC d_Mod_tellersTell_27 (c_Mod_isUnder (by rw [ek]; exact vp_in_nI hk6 (by decide))) mi_Mod_isUnder ml_Mod_131 sm_Mod_isUnder ⟨Nat.le_of_ble_eq_true rfl, Nat.le_of_ble_eq_true rfl⟩ ⟨Nat.le_of_ble_eq_true rfl, Nat.le_of_ble_eq_true rfl⟩ rfl rfl (Nat.le_of_ble_eq_true rfl) ?_
      refine eb_eq 37 hC d_Mod_tellersTell_30 rfl (fun h_30 => ?_) (fun h_30 => ?_)
      · refine ev_iconst (v := 0) rfl hC d_Mod_tellersTell_37 ?_
        refine ev_istore_n (by decide) hC d_Mod_tellersTell_38 ?_
        rw [hc.1] at h_17
        refine ev_iconst (v := nI 0) rfl hC d_Mod_tellersTell_39 ?_
        refine ev_istore_n (by decide) hC d_Mod_tellersTell_40 ?_
        refine ev_iload_n rfl hC d_Mod_tellersTell_41 ?_
        refine ev_aload_n rfl hC d_Mod_tellersTell_42 ?_
        refine gv_Mod_now hC d_Mod_tellersTell_43 fl_Mod_9 ?_
        refine ev_iconst (v := nI 3) rfl hC d_Mod_tellersTell_46 ?_
        refine ga_now hC d_Mod_tellersTell_47 (by omega) ?_
        refine ev_icmp_ge 112 hC d_Mod_tellersTell_48 rfl (fun _ => ?_) (fun _ => ?_)
        · refine Ev.take 2 ?_
          refine ev_iinc rfl (by decide) (nI_1 _) hC d_Mod_tellersTell_112 ?_
          refine ev_goto 2 hC d_Mod_tellersTell_115 rfl ?_
          exact ih (i + 1) M (by omega) hc (by rw [he, rp, show fTelP aw n i (M.1 10) = M.1 10 from if_neg (fun z => by rw [z.2] at h_30; cases h_30)])
        · refine ev_iload_n rfl hC d_Mod_tellersTell_51 ?_
          refine ev_if_eq 112 hC d_Mod_tellersTell_52 rfl (fun _ => ?_) (fun h => absurd rfl h)
          refine Ev.take 2 ?_
          refine ev_iinc rfl (by decide) (nI_1 _) hC d_Mod_tellersTell_112 ?_
          refine ev_goto 2 hC d_Mod_tellersTell_115 rfl ?_
          exact ih (i + 1) M (by omega) hc (by rw [he, rp, show fTelP aw n i (M.1 10) = M.1 10 from if_neg (fun z => by rw [z.2] at h_30; cases h_30)])
      · refine ev_iconst (v := 1) rfl hC d_Mod_tellersTell_33 ?_
        refine ev_goto 38 hC d_Mod_tellersTell_34 rfl ?_
        refine ev_istore_n (by decide) hC d_Mod_tellersTell_38 ?_
        refine ev_iconst (v := nI 0) rfl hC d_Mod_tellersTell_39 ?_
        refine ev_istore_n (by decide) hC d_Mod_tellersTell_40 ?_
        rw [hc.1] at h_17
        exact lp_Mod_tell2 (k := m) hin hn (fun M2 h1 h2 he2 => by
          refine ev_iinc rfl (by decide) (nI_1 _) hC d_Mod_tellersTell_112 ?_
          refine ev_goto 2 hC d_Mod_tellersTell_115 rfl ?_
          exact ih (i + 1) M2 (by omega) ⟨h1, h2⟩ he2) hC hR n 0 M (by omega) hc (by rw [he, rp, show fTelP aw n i (M.1 10) = rp (fTelR aw i) n 0 (M.1 10) from if_pos ⟨h_17, h_30⟩])

set_option maxHeartbeats 2000000 in
set_option maxRecDepth 10000 in
theorem c_Mod_tellersTell {G : ex_G} {M : ex_M} {aw : Int32} {n ne : Nat} (ha : M.1 14 1 = aw) (h : HK (M.1 10) n ne) : Con G Y_Mod_tellersTell 3 66 0 0 [.ref (ex_b G + 71)] (ce G M) (none) (ce G (mI M 10 (rp (fTelP aw n) n 0 (M.1 10)))) := by
  refine Con.ofF (plainFor_of_name (by decide +kernel)) (Nat.le_of_ble_eq_true rfl) (fun C hC hR => ?_)
  show Ev G C Y_Mod_tellersTell 0 [some (.ref (ex_b G + 71))] [] 0 0 (ce G M)
  refine ev_iconst (v := nI 0) rfl hC d_Mod_tellersTell_0 ?_
  refine ev_istore_n (by decide) hC d_Mod_tellersTell_1 ?_
  exact lp_Mod_tell1 h.2.1 hC hR n 0 M (by omega) ⟨ha, h⟩ rfl
