/-! an hour: both sides' steps keep rows that say the same -/
theorem ther_m1 {i : Nat} (h : i < 8) : ther (-1) i = true := by
  rcases (by omega : i = 0 ∨ i = 1 ∨ i = 2 ∨ i = 3 ∨ i = 4 ∨ i = 5 ∨ i = 6 ∨ i = 7) with e | e | e | e | e | e | e | e <;> subst e <;> decide
theorem rp_add {f : Nat → (Nat → Int32) → (Nat → Int32)} : ∀ m1 m2 i b, rp f (m1 + m2) i b = rp f m2 (i + m1) (rp f m1 i b)
  | 0, m2, i, b => by rw [Nat.zero_add]; rfl
  | m1 + 1, m2, i, b => by
    rw [show m1 + 1 + m2 = (m1 + m2) + 1 by omega, rp, rp, rp_add m1 m2 (i + 1), show i + 1 + m1 = i + (m1 + 1) by omega]
theorem rp_shift {f g : Nat → (Nat → Int32) → (Nat → Int32)} : ∀ m i j b, (∀ k, k < m → f (i + k) = g (j + k)) → rp f m i b = rp g m j b
  | 0, _, _, _, _ => rfl
  | m + 1, i, j, b, h => by
    have h0 := h 0 (by omega)
    simp only [Nat.add_zero] at h0
    rw [rp, rp, h0]
    exact rp_shift m (i + 1) (j + 1) _ (fun k hk => by rw [show i + 1 + k = i + (k + 1) by omega, show j + 1 + k = j + (k + 1) by omega]; exact h (k + 1) (by omega))
theorem SG_id {np : Nat} (h : np ≤ 8) : SG (-1) np np (fun i => i) := ⟨fun i hi => ⟨hi, ther_m1 (i := i) (by omega)⟩, fun _ _ _ _ e => e, fun _ _ _ => rfl⟩
def skp (w i : Nat) : Nat := if i < w then i else i + 1
theorem ther_w {w p : Nat} (hw : w < 8) (hp : p < 8) : ther (nI w) p = !decide (p = w) := by
  unfold ther
  by_cases h : p = w
  · subst h; rw [decide_eq_true rfl, decide_eq_true rfl]
  · rw [decide_eq_false h, decide_eq_false (fun z => h ((nI_eq (by omega) (by omega)).mp z))]
theorem SG_skp {np w : Nat} (h : np ≤ 8) (hw : w < np) : SG (nI w) (np - 1) np (skp w) := by
  refine ⟨fun i hi => ?_, fun i j hi hj e => ?_, fun g hg b => ?_⟩
  · have hs : skp w i < np ∧ skp w i ≠ w := by unfold skp; split <;> omega
    refine ⟨hs.1, ?_⟩
    rw [ther_w (by omega) (by omega), decide_eq_false hs.2]; rfl
  · unfold skp at e
    split at e <;> split at e <;> omega
  · have e1 : rp g np 0 b = rp g (np - 1 - w) (w + 1) (rp g w 0 b) := by
      rw [show np = w + (1 + (np - 1 - w)) by omega, rp_add, Nat.zero_add]
      rw [show w + (1 + (np - 1 - w)) - 1 - w = np - 1 - w by omega, rp_add]
      congr 1
      rw [rp, rp]
      exact hg w _ hw (by rw [ther_w (by omega) (by omega), decide_eq_true rfl]; rfl)
    rw [e1, show np - 1 = w + (np - 1 - w) by omega, rp_add, Nat.zero_add, show w + (np - 1 - w) - w = np - 1 - w by omega]
    rw [rp_shift (f := g) (g := fun i => g (skp w i)) w 0 0 b (fun k hk => by show g (0 + k) = g (skp w (0 + k)); rw [show skp w (0 + k) = 0 + k by unfold skp; rw [if_pos (by omega)]])]
    exact rp_shift _ _ _ _ (fun k hk => by show g (w + 1 + k) = g (skp w (w + k)); rw [show skp w (w + k) = w + 1 + k by unfold skp; rw [if_neg (by omega)]; omega])
theorem rp_PP {f g : Nat → (Nat → Int32) → (Nat → Int32)} {s : Nat → Nat} {nc ne n : Nat} (h : ∀ i a b, i < n → (WB a nc ne ∧ Qr s nc ne a b) → (WB (f i a) nc ne ∧ Qr s nc ne (f i a) (g i b))) (a b : Nat → Int32) (h0 : WB a nc ne ∧ Qr s nc ne a b) : WB (rp f n 0 a) nc ne ∧ Qr s nc ne (rp f n 0 a) (rp g n 0 b) :=
  rp_rel (f := f) (g := g) (P := fun a b => WB a nc ne ∧ Qr s nc ne a b) (n := n) h n 0 a b (by omega) h0
section Hour
variable {s : Nat → Nat} {nc ne np : Nat} {aw : Int32}
theorem Q_over {a b : Nat → Int32} {i : Nat} (hg : SG aw nc np s) (hi : i < nc) (h : WB a nc ne ∧ Qr s nc ne a b) (hc : pays a i = true) : WB (oOver a i (a 1)) nc ne ∧ Qr s nc ne (oOver a i (a 1)) (oOvR b (s i)) := by
  obtain ⟨w, q⟩ := h
  have hne : ne ≤ 8 := w.1.2.2.2.1
  have e0 : ∀ f, f < 7 → b (28 + 7 * s i + f) = a (28 + 7 * i + f) := fun f hf => (q.2.2 i f hi hf).symm
  have e1 : b 1 = a 1 := (q.1 1 (by omega)).symm
  have hp : ¬ a (28 + 7 * i + 2) < a 1 := by
    unfold pays at hc
    simpa using hc
  obtain ⟨c1, c2⟩ := cut_pay (w.2.2.1 i hi).2 w.2.1 hp
  have hb := (w.2.2.1 i hi).1
  have eb : (1 : Int32) - a (28 + 7 * i + 1) = if a (28 + 7 * i + 1) = 0 then 1 else 0 := by
    rcases hb with z | z <;> rw [z] <;> decide
  have hb2 : (if a (28 + 7 * i + 1) = 0 then (1 : Int32) else 0) = 0 ∨ (if a (28 + 7 * i + 1) = 0 then (1 : Int32) else 0) = 1 := by
    rcases hb with z | z <;> rw [z] <;> decide
  unfold oOver oOvR oPay
  rw [e0 2 (by omega), e0 5 (by omega), e0 1 (by omega), e1, c1, eb]
  refine ⟨WB_fr (WB_bk (WB_pu w c2) hb2) (by omega), ?_⟩
  rw [ud_swap (show 28 + 7 * i + 1 ≠ 28 + 7 * i + 5 by omega)]
  exact Qr_p hg hne hi (Qr_p hg hne hi (Qr_p hg hne hi q (by omega)) (by omega)) (by omega)
theorem Q_cross {a b : Nat → Int32} {i : Nat} {c : Int32} (hg : SG aw nc np s) (hi : i < nc) (h : WB a nc ne ∧ Qr s nc ne a b) : WB (fCross c i a) nc ne ∧ Qr s nc ne (fCross c i a) (fCrossR aw c (s i) b) := by
  have e0 : ∀ f, f < 7 → b (28 + 7 * s i + f) = a (28 + 7 * i + f) := fun f hf => (h.2.2.2 i f hi hf).symm
  have e1 : b 1 = a 1 := (h.2.1 1 (by omega)).symm
  have ew : wants b (s i) c = wants a i c := by unfold wants; rw [e0 1 (by omega), e0 3 (by omega), e0 4 (by omega)]
  have ep : pays b (s i) = pays a i := by unfold pays; rw [e0 2 (by omega), e1]
  unfold fCross fCrossR
  rw [ew, ep, (hg.1 i hi).2]
  by_cases hc : wants a i c = true ∧ pays a i = true
  · rw [if_pos (by rw [hc.1, hc.2]; rfl), if_pos ⟨rfl, hc.1, hc.2⟩]
    exact Q_over hg hi h hc.2
  · rw [if_neg (by rw [Bool.and_eq_true]; exact hc), if_neg (fun z => hc z.2)]
    exact h
theorem Q_told {a b : Nat → Int32} {i o : Nat} (hg : SG aw nc np s) (hi : i < nc) (ho : o < nc) (h : WB a nc ne ∧ Qr s nc ne a b) : WB (fT i o a) nc ne ∧ Qr s nc ne (fT i o a) (fTelR aw (s i) (s o) b) := by
  obtain ⟨w, q⟩ := h
  have hne : ne ≤ 8 := w.1.2.2.2.1
  have e0 : ∀ j f, j < nc → f < 7 → b (28 + 7 * s j + f) = a (28 + 7 * j + f) := fun j f hj hf => (q.2.2 j f hj hf).symm
  unfold fT fTelR
  rw [e0 i 1 hi (by omega), e0 o 1 ho (by omega), (hg.1 o ho).2]
  by_cases hc : o ≠ i ∧ a (28 + 7 * o + 1) = a (28 + 7 * i + 1)
  · rw [if_pos hc, if_pos ⟨rfl, fun z => hc.1 (hg.2.1 _ _ ho hi z), hc.2⟩]
    unfold oTel
    rw [e0 i 6 hi (by omega), e0 o 6 ho (by omega)]
    refine ⟨WB_kn w ?_, Qr_p hg hne ho q (by omega)⟩
    obtain ⟨k1, l1, z1⟩ := w.1.2.2.2.2.2.2 i hi
    obtain ⟨k2, l2, z2⟩ := w.1.2.2.2.2.2.2 o ho
    rw [z1, z2, fa_or]
    exact ⟨_, or_small l2 l1, rfl⟩
  · rw [if_neg hc, if_neg (fun z => hc ⟨fun y => z.2.1 (by rw [y]), z.2.2⟩)]
    exact ⟨w, q⟩
theorem Q_tells {a b : Nat → Int32} {i : Nat} (hg : SG aw nc np s) (hi : i < nc) (h : WB a nc ne ∧ Qr s nc ne a b) : WB (fTP nc i a) nc ne ∧ Qr s nc ne (fTP nc i a) (fTelP aw np (s i) b) := by
  have e0 : b (28 + 7 * s i + 0) = a (28 + 7 * i + 0) := (h.2.2.2 i 0 hi (by omega)).symm
  unfold fTP fTelP
  rw [e0, (hg.1 i hi).2]
  have et : undF 6 (a (28 + 7 * i + 0)) 3 = isTel a i := by
    obtain ⟨k, hk, z⟩ := h.1.1.2.2.2.2.2.1 i hi
    unfold isTel
    rw [z]
    exact tel_all k hk
  rw [et]
  by_cases ht : isTel a i = true
  · rw [if_pos ht, if_pos ⟨rfl, ht⟩, hg.2.2 (fTelR aw (s i)) (fun p c _ hp => by unfold fTelR; rw [hp, if_neg (fun z => absurd z.1 (by decide))])]
    exact rp_PP (f := fT i) (g := fun o => fTelR aw (s i) (s o)) (fun o a b ho hh => Q_told (o := o) hg hi ho hh) a b h
  · rw [if_neg ht, if_neg (fun z => ht z.2)]
    exact h
theorem Q_meetE {a b : Nat → Int32} {i e : Nat} (hi : i < nc) (he : e < ne) (h : WB a nc ne ∧ Qr s nc ne a b) : WB (fMeetE i e a) nc ne ∧ Qr s nc ne (fMeetE i e a) (fMeetER (s i) e b) := by
  obtain ⟨w, q⟩ := h
  have hne : ne ≤ 8 := w.1.2.2.2.1
  have e6 : b (28 + 7 * s i + 6) = a (28 + 7 * i + 6) := (q.2.2 i 6 hi (by omega)).symm
  have eE : ∀ f, f < 3 → b (4 + 3 * e + f) = a (4 + 3 * e + f) := fun f hf => (q.2.1 _ (by omega) (by omega)).symm
  have e00 : b 0 = a 0 := (q.1 0 (by omega)).symm
  unfold fMeetE fMeetER cbm
  rw [hs1_hb, e6, eE 0 (by omega), eE 1 (by omega), eE 2 (by omega), e00]
  by_cases hc : hb (a (28 + 7 * i + 6)) (nI e) = true ∧ ¬ 0 ≤ a (4 + 3 * e + 1) ∧ ¬ a (4 + 3 * e + 0) + 24 < a 0
  · rw [if_pos (by rw [hc.1, decide_eq_false hc.2.1, decide_eq_false hc.2.2]; rfl), if_pos hc]
    exact ⟨WB_me (by omega) w (Or.inr rfl), Qr_e hne (by omega) q⟩
  · rw [if_neg (by simpa using hc), if_neg hc, ud_id (eE 2 (by omega))]
    exact ⟨w, q⟩
theorem Q_meet {a b : Nat → Int32} {i : Nat} (hg : SG aw nc np s) (hi : i < nc) (h : WB a nc ne ∧ Qr s nc ne a b) : WB (fMeet ne i a) nc ne ∧ Qr s nc ne (fMeet ne i a) (fMeetR aw ne (s i) b) := by
  have e0 : ∀ f, f < 7 → b (28 + 7 * s i + f) = a (28 + 7 * i + f) := fun f hf => (h.2.2.2 i f hi hf).symm
  unfold fMeet fMeetR
  rw [e0 0 (by omega), e0 1 (by omega), (hg.1 i hi).2]
  by_cases hc : a (28 + 7 * i + 0) = 4 ∧ a (28 + 7 * i + 1) = 1
  · rw [if_pos hc, if_pos ⟨rfl, hc⟩]
    exact rp_PP (f := fMeetE i) (g := fMeetER (s i)) (fun e a b he hh => Q_meetE (e := e) hi he hh) a b h
  · rw [if_neg hc, if_neg (fun z => hc z.2)]
    exact h
theorem Q_bef {a b : Nat → Int32} {i e : Nat} {k : Int32} (hg : SG aw nc np s) (hi : i < nc) (he : e < ne) (h : WB a nc ne ∧ Qr s nc ne a b) : WB (fBef e k i a) nc ne ∧ Qr s nc ne (fBef e k i a) (fBefR aw e k (s i) b) := by
  obtain ⟨w, q⟩ := h
  have hne : ne ≤ 8 := w.1.2.2.2.1
  have e0 : ∀ f, f < 7 → b (28 + 7 * s i + f) = a (28 + 7 * i + f) := fun f hf => (q.2.2 i f hi hf).symm
  have eE : ∀ f, f < 3 → b (4 + 3 * e + f) = a (4 + 3 * e + f) := fun f hf => (q.2.1 _ (by omega) (by omega)).symm
  unfold fBef fBefR
  rw [e0 1 (by omega), (hg.1 i hi).2]
  by_cases hc : a (28 + 7 * i + 1) = k
  · rw [if_pos hc, if_pos ⟨rfl, hc⟩]
    unfold oLive oLivR oHear oPay
    rw [e0 0 (by omega), e0 2 (by omega), e0 6 (by omega), eE 1 (by omega), hs1_hb, gain_eq (w.1.2.2.2.2.2.1 i hi) (w.2.2.2 e he).1 (w.2.2.2 e he).2, ud_n (show 28 + 7 * i + 6 ≠ 28 + 7 * i + 2 by omega)]
    refine ⟨WB_kn (WB_pu w (cut_rg _)) ?_, Qr_p hg hne hi (Qr_p hg hne hi q (by omega)) (by omega)⟩
    obtain ⟨k1, l1, z1⟩ := w.1.2.2.2.2.2.2 i hi
    rw [z1, one_shl e (by omega), fa_or]
    exact ⟨_, or_small l1 (Nat.pow_lt_pow_right (a := 2) (by omega) (by omega : e < 8)), rfl⟩
  · rw [if_neg hc, if_neg (fun z => hc z.2)]
    exact ⟨w, q⟩
theorem Q_rbef {a b : Nat → Int32} {e : Nat} {k : Int32} (hg : SG aw nc np s) (he : e < ne) (h : WB a nc ne ∧ Qr s nc ne a b) : WB (rp (fBef e k) nc 0 a) nc ne ∧ Qr s nc ne (rp (fBef e k) nc 0 a) (rp (fBefR aw e k) np 0 b) := by
  rw [hg.2.2 (fBefR aw e k) (fun p c _ hp => by unfold fBefR; rw [hp, if_neg (fun z => absurd z.1 (by decide))])]
  exact rp_PP (f := fBef e k) (g := fun o => fBefR aw e k (s o)) (fun o a b ho hh => Q_bef (i := o) hg ho he hh) a b h
theorem fBefR_lo {e i q : Nat} {k : Int32} {b : Nat → Int32} (h : q < 28) : fBefR aw e k i b q = b q := by
  unfold fBefR
  split
  · unfold oLivR oPay
    rw [ud_n (by omega), ud_n (by omega)]
  · rfl
theorem i24 {x y : Int32} (h : x = y) : ¬ x + 24 = y := by
  intro z
  rw [← h] at z
  exact absurd (Int32.add_eq_left.mp z) (by decide)
theorem Q_ev {a b : Nat → Int32} {e : Nat} (hg : SG aw nc np s) (he : e < ne) (h : WB a nc ne ∧ Qr s nc ne a b) : WB (fEv nc e a) nc ne ∧ Qr s nc ne (fEv nc e a) (fEvR aw np e b) := by
  have hne : ne ≤ 8 := h.1.1.2.2.2.1
  have eE : ∀ f, f < 3 → b (4 + 3 * e + f) = a (4 + 3 * e + f) := fun f hf => (h.2.2.1 _ (by omega) (by omega)).symm
  have e00 : b 0 = a 0 := (h.2.1 0 (by omega)).symm
  unfold fEv fEvR fEv1
  rw [eE 0 (by omega), e00]
  by_cases h1 : a (4 + 3 * e + 0) = a 0
  · rw [if_pos h1, if_pos h1]
    unfold fEv2
    rw [rp_keep (fun i b => fBefR_lo (by omega)), rp_keep (fun i b => fBefR_lo (by omega)), eE 0 (by omega), e00, if_neg (fun z => i24 h1 z.1)]
    exact Q_rbef hg he h
  · rw [if_neg h1, if_neg h1]
    unfold fEv2
    rw [eE 0 (by omega), eE 2 (by omega), e00]
    by_cases h2 : a (4 + 3 * e + 0) + 24 = a 0 ∧ a (4 + 3 * e + 2) = 0
    · rw [if_pos h2, if_pos h2]
      exact Q_rbef hg he h
    · rw [if_neg h2, if_neg h2]
      exact h
/-- AN HOUR on both sides -/
theorem Q_hour {a b : Nat → Int32} (hg : SG aw nc np s) (h : WB a nc ne ∧ Qr s nc ne a b) : WB (hourC nc ne a) nc ne ∧ Qr s nc ne (hourC nc ne a) (hourR aw np ne b) := by
  have e00 : b 0 = a 0 := (h.2.1 0 (by omega)).symm
  unfold hourC hourR
  simp only []
  rw [e00]
  have h1 : WB (rp (fCross (a 0 - a 0 / 24 * 24)) nc 0 a) nc ne ∧ Qr s nc ne (rp (fCross (a 0 - a 0 / 24 * 24)) nc 0 a) (rp (fCrossR aw (a 0 - a 0 / 24 * 24)) np 0 b) := by
    rw [hg.2.2 (fCrossR aw (a 0 - a 0 / 24 * 24)) (fun p c _ hp => by unfold fCrossR; rw [hp, if_neg (fun z => absurd z.1 (by decide))])]
    exact rp_PP (f := fCross (a 0 - a 0 / 24 * 24)) (g := fun o => fCrossR aw (a 0 - a 0 / 24 * 24) (s o)) (fun o a b ho hh => Q_cross (i := o) hg ho hh) a b h
  generalize rp (fCross (a 0 - a 0 / 24 * 24)) nc 0 a = a1 at h1
  generalize rp (fCrossR aw (a 0 - a 0 / 24 * 24)) np 0 b = b1 at h1
  rw [← tel_spread (fun i hi => (h1.1.2.2.1 i hi).1)]
  have h2 : WB (rp (fTP nc) nc 0 a1) nc ne ∧ Qr s nc ne (rp (fTP nc) nc 0 a1) (rp (fTelP aw np) np 0 b1) := by
    rw [hg.2.2 (fTelP aw np) (fun p c _ hp => by unfold fTelP; rw [hp, if_neg (fun z => absurd z.1 (by decide))])]
    exact rp_PP (f := fTP nc) (g := fun o => fTelP aw np (s o)) (fun o a b ho hh => Q_tells (i := o) hg ho hh) a1 b1 h1
  generalize rp (fTP nc) nc 0 a1 = a2 at h2
  generalize rp (fTelP aw np) np 0 b1 = b2 at h2
  have h3 : WB (rp (fMeet ne) nc 0 a2) nc ne ∧ Qr s nc ne (rp (fMeet ne) nc 0 a2) (rp (fMeetR aw ne) np 0 b2) := by
    rw [hg.2.2 (fMeetR aw ne) (fun p c _ hp => by unfold fMeetR; rw [hp, if_neg (fun z => absurd z.1 (by decide))])]
    exact rp_PP (f := fMeet ne) (g := fun o => fMeetR aw ne (s o)) (fun o a b ho hh => Q_meet (i := o) hg ho hh) a2 b2 h2
  generalize rp (fMeet ne) nc 0 a2 = a3 at h3
  generalize rp (fMeetR aw ne) np 0 b2 = b3 at h3
  have h4 : WB (rp (fEv nc) ne 0 a3) nc ne ∧ Qr s nc ne (rp (fEv nc) ne 0 a3) (rp (fEvR aw np) ne 0 b3) := rp_PP (f := fEv nc) (g := fEvR aw np) (fun o a b ho hh => Q_ev (e := o) hg ho hh) a3 b3 h3
  generalize rp (fEv nc) ne 0 a3 = a4 at h4
  generalize rp (fEvR aw np) ne 0 b3 = b4 at h4
  rw [show b4 0 = a4 0 from (h4.2.1 0 (by omega)).symm]
  exact ⟨WB_0 h4.1, Qr_0 (by omega) h4.2⟩
theorem Q_hours (hg : SG aw nc np s) : ∀ (n : Nat) (a b : Nat → Int32), WB a nc ne ∧ Qr s nc ne a b → WB (hoursC nc ne n a) nc ne ∧ Qr s nc ne (hoursC nc ne n a) (hoursR aw np ne n b)
  | 0, _, _, h => h
  | n + 1, a, b, h => Q_hours hg n _ _ (Q_hour hg h)
end Hour
