theorem sr_Text_35 : Cond.stringRef "DayBehind$Text" 35 "toll" ∈ lw_tbl := tn (i := 574) (by decide +kernel)
theorem sr_Text_44 : Cond.stringRef "DayBehind$Text" 44 "event" ∈ lw_tbl := tn (i := 639) (by decide +kernel)
theorem sr_Text_75 : Cond.stringRef "DayBehind$Text" 75 "worth" ∈ lw_tbl := tn (i := 645) (by decide +kernel)
theorem sr_Text_77 : Cond.stringRef "DayBehind$Text" 77 "less" ∈ lw_tbl := tn (i := 646) (by decide +kernel)
theorem sr_Text_109 : Cond.stringRef "DayBehind$Text" 109 "baker" ∈ lw_tbl := tn (i := 651) (by decide +kernel)
theorem sr_Text_111 : Cond.stringRef "DayBehind$Text" 111 "debtor" ∈ lw_tbl := tn (i := 652) (by decide +kernel)
theorem sr_Text_113 : Cond.stringRef "DayBehind$Text" 113 "teller" ∈ lw_tbl := tn (i := 653) (by decide +kernel)
theorem sr_Text_115 : Cond.stringRef "DayBehind$Text" 115 "fireman" ∈ lw_tbl := tn (i := 654) (by decide +kernel)
theorem sr_Text_117 : Cond.stringRef "DayBehind$Text" 117 "lover" ∈ lw_tbl := tn (i := 655) (by decide +kernel)
theorem sr_Text_119 : Cond.stringRef "DayBehind$Text" 119 "person" ∈ lw_tbl := tn (i := 656) (by decide +kernel)
theorem sr_Text_86 : Cond.stringRef "DayBehind$Text" 86 "left" ∈ lw_tbl := tn (i := 662) (by decide +kernel)
theorem sr_Text_95 : Cond.stringRef "DayBehind$Text" 95 "purse" ∈ lw_tbl := tn (i := 664) (by decide +kernel)
theorem sr_Text_101 : Cond.stringRef "DayBehind$Text" 101 "goes" ∈ lw_tbl := tn (i := 665) (by decide +kernel)
theorem sr_Text_105 : Cond.stringRef "DayBehind$Text" 105 "comes" ∈ lw_tbl := tn (i := 666) (by decide +kernel)
theorem sr_Mod_31 : Cond.stringRef "DayBehindModel" 31 "person" ∈ lw_tbl := tn (i := 759) (by decide +kernel)
theorem sr_Mod_33 : Cond.stringRef "DayBehindModel" 33 "baker" ∈ lw_tbl := tn (i := 760) (by decide +kernel)
theorem sr_Mod_35 : Cond.stringRef "DayBehindModel" 35 "debtor" ∈ lw_tbl := tn (i := 761) (by decide +kernel)
theorem sr_Mod_37 : Cond.stringRef "DayBehindModel" 37 "teller" ∈ lw_tbl := tn (i := 762) (by decide +kernel)
theorem sr_Mod_39 : Cond.stringRef "DayBehindModel" 39 "fireman" ∈ lw_tbl := tn (i := 763) (by decide +kernel)
theorem sr_Mod_41 : Cond.stringRef "DayBehindModel" 41 "lover" ∈ lw_tbl := tn (i := 764) (by decide +kernel)
theorem sr_Mod_271 : Cond.stringRef "DayBehindModel" 271 "left" ∈ lw_tbl := tn (i := 1150) (by decide +kernel)
theorem sr_Mod_276 : Cond.stringRef "DayBehindModel" 276 "purse" ∈ lw_tbl := tn (i := 1155) (by decide +kernel)
theorem sr_Mod_281 : Cond.stringRef "DayBehindModel" 281 "goes" ∈ lw_tbl := tn (i := 1160) (by decide +kernel)
theorem sr_Mod_283 : Cond.stringRef "DayBehindModel" 283 "comes" ∈ lw_tbl := tn (i := 1161) (by decide +kernel)
theorem sr_Mod_288 : Cond.stringRef "DayBehindModel" 288 "event" ∈ lw_tbl := tn (i := 1166) (by decide +kernel)
theorem sr_Mod_293 : Cond.stringRef "DayBehindModel" 293 "worth" ∈ lw_tbl := tn (i := 1167) (by decide +kernel)
theorem sr_Mod_295 : Cond.stringRef "DayBehindModel" 295 "less" ∈ lw_tbl := tn (i := 1168) (by decide +kernel)
theorem sr_Mod_297 : Cond.stringRef "DayBehindModel" 297 "toll" ∈ lw_tbl := tn (i := 1169) (by decide +kernel)
theorem ls_ab : Cond.laysStatic "DayBehind$Kinds" "ABOVE" "[I" ∈ lw_tbl := tn (i := 320) (by decide +kernel)
theorem ls_cs : Cond.laysStatic "java/lang/String" "COMPACT_STRINGS" "Z" ∈ lw_tbl := tn (i := 592) (by decide +kernel)
theorem ls_fm : Cond.laysStatic "jdk/internal/util/Preconditions" "SIOOBE_FORMATTER" "Ljava/util/function/BiFunction;" ∈ lw_tbl := tn (i := 608) (by decide +kernel)
/-! WHAT HOLDS AT THE LAW'S ENTRY: classes, constants -/
def ck_ix : List Nat := [119, 109, 111, 113, 115, 117, 86, 95, 101, 105, 44, 75, 77, 35]
def ck_mx : List Nat := [31, 33, 35, 37, 39, 41, 271, 276, 281, 283, 288, 293, 295, 297]
def ck_tm (i : Nat) : Term := .string "DayBehind$Text" (ck_ix.getD i 0)
def ck_um (i : Nat) : Term := .string "DayBehindModel" (ck_mx.getD i 0)
abbrev st_fl : List Cond := flatC (Jvm.Cond.and given_1 narrow_1)
theorem k_ex : ∀ i, i < 14 → Cond.exactly (ck_tm i) "java/lang/String" ∈ st_fl := by decide +kernel
theorem k_eu : ∀ i, i < 14 → Cond.exactly (ck_um i) "java/lang/String" ∈ st_fl := by decide +kernel
theorem k_tu : ∀ i, i < 14 → Cond.eq (ck_tm i) (ck_um i) ∈ st_fl := by decide +kernel
theorem k_co : ∀ i, i < 14 → Cond.eq (.field (ck_tm i) "java/lang/String" "coder" "B") (.int 0) ∈ st_fl := by decide +kernel
theorem k_ar : ∀ i, i < 14 → Cond.arrayOf (.field (ck_tm i) "java/lang/String" "value" "[B") .byte ∈ st_fl := by decide +kernel
theorem k_le : ∀ i, i < 14 → Cond.eq (.length (.field (ck_tm i) "java/lang/String" "value" "[B")) (.int (Int32.ofNat (ck_len.getD i 0))) ∈ st_fl := by decide +kernel
theorem k_el : ∀ i, i < 14 → ∀ j, j < ck_len.getD i 0 → Cond.eq (.elem (.field (ck_tm i) "java/lang/String" "value" "[B") (.int (Int32.ofNat j))) (.int ((ck_byt.getD i []).getD j 0)) ∈ st_fl := by decide +kernel
theorem k_ab : ∀ j, j < 6 → Cond.eq (.elem (.static "DayBehind$Kinds" "ABOVE" "[I") (.int (Int32.ofNat j))) (.int (ck_above j)) ∈ st_fl := by decide +kernel
theorem k_len : ∀ i, i < 14 → ck_len.getD i 0 < 2 ^ 31 := by decide
section Entry
variable {args : Array Value} {s : State} {A : Nat → Prop}
theorem st_str (hs : ∀ w ∈ st_fl, w.before args s = true) (hA : ∀ a : Nat, a < s.heap.size → ¬ A a) : ∃ aK aV : Nat → Nat, ∀ i, i < 14 → (ck_tm i).eval args s none [] s = some (.ref (aK i)) ∧ (ck_um i).eval args s none [] s = some (.ref (aK i)) ∧ va_O "java/lang/String" (aK i) A s s.heap ∧ va_OF "java/lang/String" "coder" "B" (.int 0) (aK i) A s s.heap ∧ va_OF "java/lang/String" "value" "[B" (.ref (aV i)) (aK i) A s s.heap ∧ va_T .byte (aV i) (ck_len.getD i 0) (fun j => .int ((ck_byt.getD i []).getD j 0)) A s s.heap := by
  have each : ∀ i : Nat, ∃ q : Nat × Nat, i < 14 → (ck_tm i).eval args s none [] s = some (.ref q.1) ∧ (ck_um i).eval args s none [] s = some (.ref q.1) ∧ va_O "java/lang/String" q.1 A s s.heap ∧ va_OF "java/lang/String" "coder" "B" (.int 0) q.1 A s s.heap ∧ va_OF "java/lang/String" "value" "[B" (.ref q.2) q.1 A s s.heap ∧ va_T .byte q.2 (ck_len.getD i 0) (fun j => .int ((ck_byt.getD i []).getD j 0)) A s s.heap := by
    intro i
    by_cases hi : i < 14
    · obtain ⟨a, c, cell, k, e1, e2, e3, e4, e5, e6, -⟩ := Cond.exactly_spec (hs _ (k_ex i hi))
      obtain ⟨a2, c2, cell2, k2, f1, -⟩ := Cond.exactly_spec (hs _ (k_eu i hi))
      have ee := Cond.eq_refs (hs _ (k_tu i hi)) f1 rfl
      have ea : a2 = a := by
        have q := ee.symm.trans e1
        cases q
        rfl
      subst ea
      obtain ⟨t, ht, hT⟩ := va_Tof (f := fun j => .int ((ck_byt.getD i []).getD j 0)) (A := A) (k_len i hi) (hs _ (k_ar i hi)) (va_eqt (hs _ (k_le i hi))) (fun j hj => va_eqt (hs _ (k_el i hi j hj))) hA
      exact ⟨(a2, t), fun _ => ⟨e1, f1, ⟨cell, e3, e5, by rw [e6]; exact e2, hA _ (Array.getElem?_eq_some_iff.mp e3).1⟩, vk_OFof e1 (va_eqt (hs _ (k_co i hi))) hA, vk_OFof e1 ht hA, hT⟩⟩
    · exact ⟨(0, 0), fun h => absurd h hi⟩
  obtain ⟨ad, had⟩ := Classical.axiomOfChoice each
  exact ⟨fun i => (ad i).1, fun i => (ad i).2, fun i hi => had i hi⟩
theorem st_ab (hs : ∀ w ∈ st_fl, w.before args s = true) (hts : ∀ w ∈ lw_tbl, w.before args s = true) (hA : ∀ a : Nat, a < s.heap.size → ¬ A a) : ∃ t, va_Z "DayBehind$Kinds" "ABOVE" "[I" (.ref t) A s s.heap ∧ va_T .int t 6 (fun j => .int (ck_above j)) A s s.heap := by
  obtain ⟨t, ht, hT⟩ := va_Tof (tm := .static "DayBehind$Kinds" "ABOVE" "[I") (ty := .int) (N := 6) (f := fun j => .int (ck_above j)) (A := A) (by decide) (hs _ (by decide +kernel)) (va_eqt (z := 6) (hs _ (by decide +kernel))) (fun j hj => va_eqt (hs _ (k_ab j hj))) hA
  exact ⟨t, va_Zof (hts _ ls_ab) (hts _ (List.mem_filter.mp ii_Kinds).1) ht hA, hT⟩
theorem st_ar {ty : FieldType} (h : (Cond.arrayClass ty).before args s = true) : ∃ cA : ClassId, ArrOfT s cA ty ∧ s.vm.findClass ("[" ++ ty.toString) = some cA := by
  obtain ⟨c, k, comp, h1, h2, h3⟩ := Cond.arrayClass_spec h
  exact ⟨c, fun n z => ⟨fun k h => (by cases h), k, h2, comp, h3⟩, h1⟩
theorem st_ao {C : String} (h : (Cond.arrayOver (.object C)).before args s = true) : ∃ cA : ClassId, ArrOfT s cA (.object C) ∧ va_RA s cA (.object C) := by
  obtain ⟨comp, c, k, h1, -, h3, h4, h5⟩ := Cond.arrayOver_spec h
  exact ⟨c, fun n z => ⟨fun k h => (by cases h), k, h3, comp, h4⟩, k, comp, h3, h4, h1, h5⟩
theorem st_nest (hts : ∀ w ∈ lw_tbl, w.before args s = true) : ∀ w ∈ lw_tbl, ex_nest w = true → va_Nw w s := by
  intro w hw hn
  have h1 := hts w hw
  cases w <;> first | (simp [ex_nest] at hn; done) | exact va_Nw.of rfl h1 | skip
  rename_i ty
  cases ty <;> first | (simp [ex_nest] at hn; done) | exact va_AO.of h1
end Entry

set_option maxHeartbeats 4000000 in
set_option maxRecDepth 20000 in
/-- the run's own words, from the entry's -/
theorem st_G {args : Array Value} {s : State} (l : Launch) (hts : ∀ w ∈ lw_tbl, w.before args s = true) (hs : ∀ w ∈ st_fl, w.before args s = true) : ∃ G : ex_G, ex_l G = l ∧ ex_b G = s.heap.size ∧ ex_K G s := by
  have hA : ∀ a : Nat, a < s.heap.size → ¬ (fun q : Nat => s.heap.size ≤ q) a := fun a h => Nat.not_le.mpr h
  obtain ⟨c0, i0, k0⟩ := u_known (C := "DayBehind$Best") (T := fx_Best) (N := 2) (n := 2) hts ix_Best (hts _ (List.mem_filter.mp is_Best).1)
  obtain ⟨c1, i1, k1⟩ := u_known (C := "DayBehind$Event") (T := fx_Event) (N := 3) (n := 3) hts ix_Event (hts _ (List.mem_filter.mp is_Event).1)
  obtain ⟨c2, i2, k2⟩ := u_known (C := "DayBehind$One") (T := fx_One) (N := 7) (n := 7) hts ix_One (hts _ (List.mem_filter.mp is_One).1)
  obtain ⟨c3, i3, k3⟩ := u_known (C := "DayBehind$River") (T := fx_River) (N := 6) (n := 6) hts ix_River (hts _ (List.mem_filter.mp is_River).1)
  obtain ⟨c4, i4, k4⟩ := u_known (C := "DayBehind$Sheet") (T := fx_Sheet) (N := 3) (n := 3) hts ix_Sheet (hts _ (List.mem_filter.mp is_Sheet).1)
  obtain ⟨c5, i5, k5⟩ := u_known (C := "DayBehind$Text") (T := fx_Text) (N := 7) (n := 7) hts ix_Text (hts _ (List.mem_filter.mp is_Text).1)
  obtain ⟨c6, i6, k6⟩ := u_known (C := "DayBehind") (T := fx_Day) (N := 8) (n := 8) hts ix_Day (hts _ (List.mem_filter.mp is_Day).1)
  obtain ⟨c7, i7, k7⟩ := u_known (C := "DayBehindModel") (T := fx_Mod) (N := 23) (n := 23) hts ix_Mod (hts _ (List.mem_filter.mp is_Mod).1)
  obtain ⟨a0, b0, d0⟩ := st_ar (hts _ (List.mem_filter.mp ac_int).1)
  obtain ⟨a1, b1, d1⟩ := st_ar (hts _ (List.mem_filter.mp ac_long).1)
  obtain ⟨a2, b2, d2⟩ := st_ao (hts _ ao_One)
  obtain ⟨a3, b3, d3⟩ := st_ao (hts _ ao_Event)
  obtain ⟨a4, b4, d4⟩ := st_ao (hts _ ao_Sheet)
  obtain ⟨a5, b5, d5⟩ := st_ao (hts _ ao_Str)
  obtain ⟨aK, aV, hst⟩ := st_str (A := fun q : Nat => s.heap.size ≤ q) hs hA
  obtain ⟨t, hZ, hT⟩ := st_ab (A := fun q : Nat => s.heap.size ≤ q) hs hts hA
  refine ⟨(l, (fun k => if k = 0 then c0 else if k = 1 then c1 else if k = 2 then c2 else if k = 3 then c3 else if k = 4 then c4 else if k = 5 then c5 else if k = 6 then c6 else c7, fun k => if k = 0 then i0 else if k = 1 then i1 else if k = 2 then i2 else if k = 3 then i3 else if k = 4 then i4 else if k = 5 then i5 else if k = 6 then i6 else i7), s.heap.size, fun k => if k = 0 then a0 else if k = 1 then a1 else if k = 2 then a2 else if k = 3 then a3 else if k = 4 then a4 else a5, t, aK, aV), rfl, rfl, ⟨?_, ?_⟩, ⟨hZ, hT, ?_, ?_, fun i hi => (hst i hi).2.2⟩, Nat.le_refl _, st_nest hts, ?_⟩
  · intro k q hq
    match k, hq with
    | 0, hq => cases hq; exact k0
    | 1, hq => cases hq; exact k1
    | 2, hq => cases hq; exact k2
    | 3, hq => cases hq; exact k3
    | 4, hq => cases hq; exact k4
    | 5, hq => cases hq; exact k5
    | 6, hq => cases hq; exact k6
    | 7, hq => cases hq; exact k7
    | k + 8, hq => simp [ex_cl] at hq
  · intro k q hq
    match k, hq with
    | 0, hq => cases hq; exact ⟨b0, d0⟩
    | 1, hq => cases hq; exact ⟨b1, d1⟩
    | 2, hq => cases hq; exact ⟨b2, d2⟩
    | 3, hq => cases hq; exact ⟨b3, d3⟩
    | 4, hq => cases hq; exact ⟨b4, d4⟩
    | 5, hq => cases hq; exact ⟨b5, d5⟩
    | k + 6, hq => simp [ex_ty] at hq
  · exact va_Zof (hts _ ls_cs) (hts _ (List.mem_filter.mp ii_Str).1) (va_eqt (hs _ (by decide +kernel))) hA
  · exact va_Zqof (hts _ ls_fm) (hts _ (List.mem_filter.mp ii_Pre).1) (hs _ (by decide +kernel)) hA
  · intro q hq
    simp only [ck_refs, List.mem_cons, List.not_mem_nil, or_false] at hq
    rcases hq with e | e | e | e | e | e | e | e | e | e | e | e | e | e | e | e | e | e | e | e | e | e | e | e | e | e | e | e <;> subst e
    · exact vk_R.of (hts _ sr_Text_35) (hst 13 (by decide)).1
    · exact vk_R.of (hts _ sr_Text_44) (hst 10 (by decide)).1
    · exact vk_R.of (hts _ sr_Text_75) (hst 11 (by decide)).1
    · exact vk_R.of (hts _ sr_Text_77) (hst 12 (by decide)).1
    · exact vk_R.of (hts _ sr_Text_109) (hst 1 (by decide)).1
    · exact vk_R.of (hts _ sr_Text_111) (hst 2 (by decide)).1
    · exact vk_R.of (hts _ sr_Text_113) (hst 3 (by decide)).1
    · exact vk_R.of (hts _ sr_Text_115) (hst 4 (by decide)).1
    · exact vk_R.of (hts _ sr_Text_117) (hst 5 (by decide)).1
    · exact vk_R.of (hts _ sr_Text_119) (hst 0 (by decide)).1
    · exact vk_R.of (hts _ sr_Text_86) (hst 6 (by decide)).1
    · exact vk_R.of (hts _ sr_Text_95) (hst 7 (by decide)).1
    · exact vk_R.of (hts _ sr_Text_101) (hst 8 (by decide)).1
    · exact vk_R.of (hts _ sr_Text_105) (hst 9 (by decide)).1
    · exact vk_R.of (hts _ sr_Mod_31) (hst 0 (by decide)).2.1
    · exact vk_R.of (hts _ sr_Mod_33) (hst 1 (by decide)).2.1
    · exact vk_R.of (hts _ sr_Mod_35) (hst 2 (by decide)).2.1
    · exact vk_R.of (hts _ sr_Mod_37) (hst 3 (by decide)).2.1
    · exact vk_R.of (hts _ sr_Mod_39) (hst 4 (by decide)).2.1
    · exact vk_R.of (hts _ sr_Mod_41) (hst 5 (by decide)).2.1
    · exact vk_R.of (hts _ sr_Mod_271) (hst 6 (by decide)).2.1
    · exact vk_R.of (hts _ sr_Mod_276) (hst 7 (by decide)).2.1
    · exact vk_R.of (hts _ sr_Mod_281) (hst 8 (by decide)).2.1
    · exact vk_R.of (hts _ sr_Mod_283) (hst 9 (by decide)).2.1
    · exact vk_R.of (hts _ sr_Mod_288) (hst 10 (by decide)).2.1
    · exact vk_R.of (hts _ sr_Mod_293) (hst 11 (by decide)).2.1
    · exact vk_R.of (hts _ sr_Mod_295) (hst 12 (by decide)).2.1
    · exact vk_R.of (hts _ sr_Mod_297) (hst 13 (by decide)).2.1

