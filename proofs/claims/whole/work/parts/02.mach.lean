/-! THE MACHINE AS A CALCULUS: Ev, 'from here the method comes to its end'; Con, 'called so, it answers so'. Worlds are lists of cells; the cell of number k lies at base + k. -/
abbrev ex_G : Type := Launch × va_G × Nat × (Nat → ClassId) × Nat × (Nat → Nat) × (Nat → Nat)
abbrev ex_C : Type := Program × Env × Room × State × MethodId × Array Value × List Frame × Method × Code × (State → Prop)
def ex_lk : List (Option Value) → Nat → Option Value
  | [], _ => none
  | a :: _, 0 => a
  | _ :: t, n + 1 => ex_lk t n
def ex_ll : Nat → List (Option Value) → List (Nat × Value)
  | _, [] => []
  | k, none :: t => ex_ll (k + 1) t
  | k, some v :: t => (k, v) :: ex_ll (k + 1) t
def ex_isL : Option Value → Bool
  | some (.long _) => true
  | some (.double _) => true
  | _ => false
def ex_st : List (Option Value) → Nat → Value → List (Option Value)
  | [], 0, v => [some v]
  | [], n + 1, v => none :: ex_st [] n v
  | _ :: t, 0, v => some v :: t
  | a :: t, n + 1, v => (if n == 0 && ex_isL a then none else a) :: ex_st t n v
def ex_kill : List (Option Value) → Nat → List (Option Value)
  | [], _ => []
  | _ :: t, 0 => none :: t
  | a :: t, n + 1 => a :: ex_kill t n
def ex_stL (L : List (Option Value)) (i : Nat) (v : Value) : List (Option Value) := ex_kill (ex_st L i v) (i + 1)
def ex_en : List Value → List (Option Value)
  | [] => []
  | v :: vs => if v.category = 2 then some v :: none :: ex_en vs else some v :: ex_en vs
theorem ex_ll_lk : ∀ (L : List (Option Value)) (k i : Nat) (v : Value), ex_lk L i = some v → (k + i, v) ∈ ex_ll k L
  | [], _, _, _, h => by simp [ex_lk] at h
  | none :: t, k, 0, v, h => by simp [ex_lk] at h
  | some w :: t, k, 0, v, h => by
    simp only [ex_lk, Option.some.injEq] at h
    subst h
    simp [ex_ll]
  | none :: t, k, i + 1, v, h => by
    have := ex_ll_lk t (k + 1) i v h
    simp only [ex_ll]
    rwa [show k + (i + 1) = k + 1 + i by omega]
  | some w :: t, k, i + 1, v, h => by
    have := ex_ll_lk t (k + 1) i v h
    simp only [ex_ll, List.mem_cons]
    right
    rwa [show k + (i + 1) = k + 1 + i by omega]
theorem ex_ll_ge : ∀ (L : List (Option Value)) (k : Nat) (q : Nat × Value), q ∈ ex_ll k L → k ≤ q.1
  | [], _, _, h => by simp [ex_ll] at h
  | none :: t, k, q, h => by
    have := ex_ll_ge t (k + 1) q h
    omega
  | some w :: t, k, q, h => by
    simp only [ex_ll, List.mem_cons] at h
    rcases h with h | h
    · subst h; exact Nat.le_refl _
    · have := ex_ll_ge t (k + 1) q h
      omega
theorem ex_isL_cat {v : Value} (h : v.category = 2) : ex_isL (some v) = true := by
  cases v <;> simp_all [Value.category, ex_isL]
theorem ex_ll_st : ∀ (L : List (Option Value)) (k i : Nat) (v : Value) (q : Nat × Value), q ∈ ex_ll k (ex_st L i v) → q = (k + i, v) ∨ (q ∈ ex_ll k L ∧ q.1 ≠ k + i ∧ ¬ (q.1 + 1 = k + i ∧ q.2.category = 2))
  | [], k, 0, v, q, h => by
    simp [ex_st, ex_ll] at h
    exact Or.inl h
  | [], k, n + 1, v, q, h => by
    simp only [ex_st, ex_ll] at h
    rcases ex_ll_st [] (k + 1) n v q h with h | h
    · left; rw [h]; congr 1; omega
    · simp [ex_ll] at h
  | a :: t, k, 0, v, q, h => by
    simp only [ex_st, ex_ll, List.mem_cons] at h
    rcases h with h | h
    · left; exact h
    · right
      have h2 := ex_ll_ge t (k + 1) q h
      refine ⟨?_, by omega, by omega⟩
      cases a <;> simp [ex_ll, h]
  | a :: t, k, n + 1, v, q, h => by
    simp only [ex_st] at h
    have key : q ∈ ex_ll (k + 1) (ex_st t n v) ∨ (∃ w, a = some w ∧ q = (k, w) ∧ ¬ (n = 0 ∧ ex_isL a = true)) := by
      by_cases hc : (n == 0 && ex_isL a) = true
      · rw [if_pos hc] at h
        exact Or.inl h
      · rw [if_neg hc] at h
        cases a with
        | none => exact Or.inl h
        | some w =>
          simp only [ex_ll, List.mem_cons] at h
          rcases h with h | h
          · refine Or.inr ⟨w, rfl, h, ?_⟩
            intro hh
            apply hc
            simp [hh.1, hh.2]
          · exact Or.inl h
    rcases key with h | ⟨w, ha, hq, hn⟩
    · rcases ex_ll_st t (k + 1) n v q h with h | ⟨h1, h2, h3⟩
      · left; rw [h]; congr 1; omega
      · right
        refine ⟨?_, by omega, by omega⟩
        cases a <;> simp [ex_ll, h1]
    · right
      subst ha
      subst hq
      refine ⟨by simp [ex_ll], by simp, ?_⟩
      rintro ⟨h1, h2⟩
      simp only at h1 h2
      exact hn ⟨by omega, ex_isL_cat h2⟩
theorem ex_ll_kill : ∀ (L : List (Option Value)) (k i : Nat) (q : Nat × Value), q ∈ ex_ll k (ex_kill L i) → q ∈ ex_ll k L ∧ q.1 ≠ k + i
  | [], k, i, q, h => by simp [ex_kill, ex_ll] at h
  | a :: t, k, 0, q, h => by
    simp only [ex_kill, ex_ll] at h
    have := ex_ll_ge t (k + 1) q h
    refine ⟨?_, by omega⟩
    cases a <;> simp [ex_ll, h]
  | none :: t, k, n + 1, q, h => by
    simp only [ex_kill, ex_ll] at h ⊢
    have := ex_ll_kill t (k + 1) n q h
    exact ⟨this.1, by omega⟩
  | some w :: t, k, n + 1, q, h => by
    simp only [ex_kill, ex_ll, List.mem_cons] at h ⊢
    rcases h with h | h
    · subst h
      exact ⟨Or.inl rfl, by simp⟩
    · have := ex_ll_kill t (k + 1) n q h
      exact ⟨Or.inr this.1, by omega⟩
theorem ex_has_sub {ls : Array Slot} {nL : Nat} {l l' : List (Nat × Value)} (h : lv_has ls nL l) (hs : ∀ q ∈ l', q ∈ l) : lv_has ls nL l' := ⟨h.1, h.2.1, fun q hq => h.2.2 q (hs q hq)⟩
theorem ex_has_st {ls : Array Slot} {nL i : Nat} {L : List (Option Value)} {v : Value} (h : lv_has ls nL ((i, v) :: (ex_ll 0 L).filter (fun q => !(q.1 == i) && !(q.1 + 1 == i && q.2.category == 2)))) : lv_has ls nL (ex_ll 0 (ex_st L i v)) := by
  refine ex_has_sub h fun q hq => ?_
  rcases ex_ll_st L 0 i v q hq with h | ⟨h1, h2, h3⟩
  · rw [h]; simp
  · refine List.mem_cons_of_mem _ (List.mem_filter.mpr ⟨h1, ?_⟩)
    simp only [Nat.zero_add] at h2 h3
    simp only [Bool.and_eq_true, Bool.not_eq_true', beq_eq_false_iff_ne, Bool.and_eq_false_iff]
    refine ⟨h2, ?_⟩
    by_cases hc : q.1 + 1 = i
    · right; intro hh; exact h3 ⟨hc, hh⟩
    · left; exact hc
theorem ex_has_stL {ls : Array Slot} {nL i : Nat} {L : List (Option Value)} {v : Value} (h : lv_has ls nL ((i, v) :: (ex_ll 0 L).filter (fun q => !(q.1 == i) && (!(q.1 == i + 1) && !(q.1 + 1 == i && q.2.category == 2))))) : lv_has ls nL (ex_ll 0 (ex_stL L i v)) := by
  refine ex_has_sub h fun q hq => ?_
  obtain ⟨hq, h4⟩ := ex_ll_kill _ 0 (i + 1) q hq
  rcases ex_ll_st L 0 i v q hq with h | ⟨h1, h2, h3⟩
  · rw [h]; simp
  · refine List.mem_cons_of_mem _ (List.mem_filter.mpr ⟨h1, ?_⟩)
    simp only [Nat.zero_add] at h2 h3 h4
    simp only [Bool.and_eq_true, Bool.not_eq_true', beq_eq_false_iff_ne, Bool.and_eq_false_iff]
    refine ⟨h2, h4, ?_⟩
    by_cases hc : q.1 + 1 = i
    · right; intro hh; exact h3 ⟨hc, hh⟩
    · left; exact hc
theorem ex_has_at {ls : Array Slot} {nL i : Nat} {L : List (Option Value)} {v : Value} (h : lv_has ls nL (ex_ll 0 L)) (hi : ex_lk L i = some v) : ls[i]? = some (.val v) := by
  have := h.2.2 _ (ex_ll_lk L 0 i v hi)
  simpa using this
theorem ex_en_args : ∀ (vs : List Value) (k : Nat) (q : Nat × Value), q ∈ ex_ll k (ex_en vs) → q ∈ lv_args k vs
  | [], k, q, h => by simp [ex_en, ex_ll] at h
  | v :: vs, k, q, h => by
    simp only [ex_en] at h
    by_cases hc : v.category = 2
    · rw [if_pos hc] at h
      simp only [ex_ll, List.mem_cons] at h
      simp only [lv_args, if_pos hc, List.mem_cons]
      rcases h with h | h
      · exact Or.inl h
      · exact Or.inr (ex_en_args vs _ q h)
    · rw [if_neg hc] at h
      simp only [ex_ll, List.mem_cons] at h
      simp only [lv_args, if_neg hc, List.mem_cons]
      rcases h with h | h
      · exact Or.inl h
      · exact Or.inr (ex_en_args vs _ q h)
/-! the tables' words that a call carries along, and the others -/
def ex_tb : List Cond := lw_tbl.filter goodWord
theorem ex_tb_mem {w : Cond} (h : w ∈ lw_tbl) (hg : goodWord w = true) : w ∈ ex_tb := List.mem_filter.mpr ⟨h, hg⟩
theorem ex_tb_good {ws : List Cond} (h : ∀ w ∈ ws, w ∈ ex_tb) : GoodIn ex_tb ws := fun w hw => ⟨h w hw, good_of_word (List.mem_filter.mp (h w hw)).2⟩
def ex_nest : Cond → Bool
  | .fieldLinkNest .. => true
  | .methodLinkNest .. => true
  | .arrayOver (.object _) => true
  | _ => false
/-! the constants -/
def ck_above : Nat → Int32 := fun j => ([-1, 0, 0, 0, 3, 2] : List Int32).getD j 0
def ck_len : List Nat := [6, 5, 6, 6, 7, 5, 4, 5, 4, 5, 5, 5, 4, 4]
def ck_byt : List (List Int32) := [[112, 101, 114, 115, 111, 110], [98, 97, 107, 101, 114], [100, 101, 98, 116, 111, 114], [116, 101, 108, 108, 101, 114], [102, 105, 114, 101, 109, 97, 110], [108, 111, 118, 101, 114], [108, 101, 102, 116], [112, 117, 114, 115, 101], [103, 111, 101, 115], [99, 111, 109, 101, 115], [101, 118, 101, 110, 116], [119, 111, 114, 116, 104], [108, 101, 115, 115], [116, 111, 108, 108]]
def ck_refs : List (String × Nat × String × Nat) := [("DayBehind$Text", 35, "toll", 13), ("DayBehind$Text", 44, "event", 10), ("DayBehind$Text", 75, "worth", 11), ("DayBehind$Text", 77, "less", 12), ("DayBehind$Text", 109, "baker", 1), ("DayBehind$Text", 111, "debtor", 2), ("DayBehind$Text", 113, "teller", 3), ("DayBehind$Text", 115, "fireman", 4), ("DayBehind$Text", 117, "lover", 5), ("DayBehind$Text", 119, "person", 0), ("DayBehind$Text", 86, "left", 6), ("DayBehind$Text", 95, "purse", 7), ("DayBehind$Text", 101, "goes", 8), ("DayBehind$Text", 105, "comes", 9), ("DayBehindModel", 31, "person", 0), ("DayBehindModel", 33, "baker", 1), ("DayBehindModel", 35, "debtor", 2), ("DayBehindModel", 37, "teller", 3), ("DayBehindModel", 39, "fireman", 4), ("DayBehindModel", 41, "lover", 5), ("DayBehindModel", 271, "left", 6), ("DayBehindModel", 276, "purse", 7), ("DayBehindModel", 281, "goes", 8), ("DayBehindModel", 283, "comes", 9), ("DayBehindModel", 288, "event", 10), ("DayBehindModel", 293, "worth", 11), ("DayBehindModel", 295, "less", 12), ("DayBehindModel", 297, "toll", 13)]
abbrev ex_l (G : ex_G) : Launch := G.1
abbrev ex_D (G : ex_G) : va_G := G.2.1
abbrev ex_b (G : ex_G) : Nat := G.2.2.1
abbrev ex_c (G : ex_G) : Nat → ClassId := G.2.2.2.1
abbrev ex_ab (G : ex_G) : Nat := G.2.2.2.2.1
abbrev ex_sK (G : ex_G) : Nat → Nat := G.2.2.2.2.2.1
abbrev ex_sV (G : ex_G) : Nat → Nat := G.2.2.2.2.2.2
def ex_A (G : ex_G) : Nat → Prop := fun q => ex_b G ≤ q
def ex_ty (G : ex_G) : List (ClassId × FieldType) := [(ex_c G 0, .int), (ex_c G 1, .long), (ex_c G 2, .object "DayBehind$One"), (ex_c G 3, .object "DayBehind$Event"), (ex_c G 4, .object "DayBehind$Sheet"), (ex_c G 5, .object "java/lang/String")]
/-- a String constant: its object, its bytes -/
def ck_S (G : ex_G) (i : Nat) (U : State) (H : Heap) : Prop := va_O "java/lang/String" (ex_sK G i) (ex_A G) U H ∧ va_OF "java/lang/String" "coder" "B" (.int 0) (ex_sK G i) (ex_A G) U H ∧ va_OF "java/lang/String" "value" "[B" (.ref (ex_sV G i)) (ex_sK G i) (ex_A G) U H ∧ va_T .byte (ex_sV G i) (ck_len.getD i 0) (fun j => .int ((ck_byt.getD i []).getD j 0)) (ex_A G) U H
def ck_H (G : ex_G) (U : State) (H : Heap) : Prop :=
  va_Z "DayBehind$Kinds" "ABOVE" "[I" (.ref (ex_ab G)) (ex_A G) U H ∧ va_T .int (ex_ab G) 6 (fun j => .int (ck_above j)) (ex_A G) U H ∧ va_Z "java/lang/String" "COMPACT_STRINGS" "Z" (.int 1) (ex_A G) U H ∧
  va_Zq "jdk/internal/util/Preconditions" "SIOOBE_FORMATTER" "Ljava/util/function/BiFunction;" (ex_A G) U H ∧ ∀ i, i < 14 → ck_S G i U H
theorem ck_H.kept {G : ex_G} {U : State} {H H1 : Heap} (h : ck_H G U H) (hq : ∀ a : Nat, a < H.size → ¬ ex_A G a → H1[a]? = H[a]?) : ck_H G U H1 :=
  ⟨h.1.kept hq, h.2.1.kept hq, h.2.2.1.kept hq, h.2.2.2.1.kept hq, fun i hi => ⟨(h.2.2.2.2 i hi).1.kept hq, (h.2.2.2.2 i hi).2.1.kept hq, (h.2.2.2.2 i hi).2.2.1.kept hq, (h.2.2.2.2 i hi).2.2.2.kept hq⟩⟩
theorem ck_H.moved {G : ex_G} {u U : State} {H : Heap} (hvm : u.vm.Alike U.vm) (h : ck_H G u H) : ck_H G U H :=
  ⟨va_Z.moved hvm h.1, va_T.moved hvm h.2.1, va_Z.moved hvm h.2.2.1, va_Zq.moved hvm h.2.2.2.1, fun i hi => ⟨va_O.moved hvm (h.2.2.2.2 i hi).1, va_OF.moved hvm (h.2.2.2.2 i hi).2.1, va_OF.moved hvm (h.2.2.2.2 i hi).2.2.1, va_T.moved hvm (h.2.2.2.2 i hi).2.2.2⟩⟩
/-- what stays the same in every state of the run -/
def ex_K (G : ex_G) (U : State) : Prop := va_K (ex_D G) ex_cl (ex_ty G) U ∧ ck_H G U U.heap ∧ ex_b G ≤ U.heap.size ∧ (∀ w ∈ lw_tbl, ex_nest w = true → va_Nw w U) ∧ ∀ q ∈ ck_refs, vk_R q.1 q.2.1 q.2.2.1 (ex_sK G q.2.2.2) U
theorem ex_K.same {G : ex_G} {u U : State} (hv : U.vm = u.vm) (hh : U.heap = u.heap) (h : ex_K G u) : ex_K G U := by
  have hal : u.vm.Alike U.vm := by rw [hv]; exact Vm.Alike.refl _
  refine ⟨va_K.moved hal h.1, by rw [hh]; exact ck_H.moved hal h.2.1, by rw [hh]; exact h.2.2.1, fun w hw hn => ?_, fun q hq => vk_R.same hv (h.2.2.2.2 q hq)⟩
  have h1 := h.2.2.2.1 w hw hn
  cases w <;> first | (simp [ex_nest] at hn; done) | exact va_Nw.same rfl hv.symm h1 | skip
  rename_i ty
  cases ty <;> first | (simp [ex_nest] at hn; done) | exact va_AO.moved hal h1
theorem ex_K.warm {G : ex_G} {s U : State} (hW : s.WarmedH U.vm) (hk : ∀ q : Nat, q < s.heap.size → ¬ ex_A G q → U.heap[q]? = s.heap[q]?) (hz : s.heap.size ≤ U.heap.size) (h : ex_K G s) : ex_K G U := by
  have hal : s.vm.Alike U.vm := hW.alike
  refine ⟨va_K.moved hal h.1, (ck_H.moved hal h.2.1).kept hk, Nat.le_trans h.2.2.1 hz, fun w hw hn => ?_, fun q hq => vk_R.warm hW (h.2.2.2.2 q hq)⟩
  have h1 := h.2.2.2.1 w hw hn
  cases w <;> first | (simp [ex_nest] at hn; done) | exact va_Nw.warmF hW h1 | exact va_Nw.warmM hW h1 | skip
  rename_i ty
  cases ty <;> first | (simp [ex_nest] at hn; done) | exact va_AO.moved hal h1
/-- the cells of a world, with their addresses -/
def ex_wl (b : Nat) (es : List va_E) : va_W := es.mapIdx (fun k x => (b + k, x))
theorem ex_wl_get {b : Nat} {es : List va_E} {k : Nat} {x : va_E} (h : es[k]? = some x) : (ex_wl b es)[k]? = some (b + k, x) := by simp [ex_wl, h]
theorem ex_wl_set {b : Nat} {es : List va_E} {k : Nat} {x : va_E} : (ex_wl b es).set k (b + k, x) = ex_wl b (es.set k x) := by
  apply List.ext_getElem?
  intro j
  by_cases hj : k = j
  · subst hj
    by_cases hl : k < es.length <;> simp [ex_wl, List.getElem?_set, hl]
  · simp [ex_wl, List.getElem?_set, hj]
theorem ex_wl_D (G : ex_G) (es : List va_E) : va_D (ex_A G) (ex_wl (ex_b G) es) := by
  have key : ∀ (i : Nat) (q : Nat × va_E), (ex_wl (ex_b G) es)[i]? = some q → q.1 = ex_b G + i := by
    intro i q h
    simp only [ex_wl, List.getElem?_mapIdx] at h
    cases hx : es[i]? with
    | none => rw [hx] at h; cases h
    | some x => rw [hx] at h; cases h; rfl
  refine ⟨fun i j p q hp hq hpq => ?_, fun k q h => ?_⟩
  · have h1 := key i p hp
    have h2 := key j q hq
    omega
  · show ex_b G ≤ q.1
    rw [key k q h]
    omega
def ex_wd (G : ex_G) (es : List va_E) (H : Heap) : Prop := va_P (ex_D G) ex_cl (ex_wl (ex_b G) es) H ∧ (es.length < 83 → H.size = ex_b G + es.length)
/-- FROM HERE the machine comes to what C asks: in method Y, at pc, with locals L, operand stack S; cl cells of sl slots made so far; the world es -/
def Ev (G : ex_G) (C : ex_C) (Y : ex_Y) (pc : Nat) (L : List (Option Value)) (S : List Value) (cl sl : Nat) (es : List va_E) : Prop :=
  match C with
  | (p, e, R, s, m, args, below, meth, c, Q) => ∀ (H : Heap) (locs : List Loc) (ls : Array Slot), lv_has ls Y.2.2.1 (ex_ll 0 L) → ex_wd G es H → va_S (ex_A G) s.heap H locs → W p (ex_l G) e R s m args below meth c H locs cl sl Q (F0 m pc ls S)
/-- what is known in the method Y's frame -/
def Cx (G : ex_G) (C : ex_C) (Y : ex_Y) (R0 : Room) : Prop :=
  match C with
  | (p, _, R, s, m, args, _, _, c, _) => p.tables.exec = Jvm.exec ∧ c.code = Y.2.1 ∧ c.maxLocals = Y.2.2.1 ∧ s.vm.findClass Y.1.cls = some m.cls ∧ (∀ w ∈ ex_tb, w.before args s = true) ∧ R = R0 ∧ ex_K G s
def ex_Q (G : ex_G) (r : Option Value) (es : List va_E) : Array Value → State → Outcome → State → Prop := fun _ st oc t => oc = .returned r ∧ ex_wd G es t.heap ∧ va_F (ex_A G) st t
/-- its end: it answers r, in the world es -/
def Cr (G : ex_G) (C : ex_C) (Y : ex_Y) (mc ms : Nat) (r : Option Value) (es : List va_E) : Prop :=
  match C with
  | (_, _, _, s, _, args, below, meth, _, Q) => meth.sig.returnType = Y.2.2.2 ∧ meth.locks = false ∧ meth.name = Y.1.name ∧ Q = MQ below (ex_Q G r es) args s mc ms (ex_A G)
/-- CALLED with av in the world es, method Y answers r and leaves es2; it makes mc cells of ms slots -/
def Con (G : ex_G) (Y : ex_Y) (F X mc ms : Nat) (av : List Value) (es : List va_E) (r : Option Value) (es2 : List va_E) : Prop :=
  Met (ex_l G) Y.1 (.code Y.1 Y.2.1 Y.2.2.1 Y.2.2.2 :: ex_tb) { frames := F, cells := mc, slots := ms, locals := X } (va_Pc av (fun U => ex_K G U ∧ ex_wd G es U.heap)) (ex_Q G r es2) mc ms (ex_A G)
set_option maxHeartbeats 1000000 in
theorem Con.of {G : ex_G} {Y : ex_Y} {F X mc ms : Nat} {av : List Value} {es : List va_E} {r : Option Value} {es2 : List va_E} (hy : plainName Y.1.cls = true) (hn : (lg_sl av).length ≤ Y.2.2.1)
    (h : ∀ C : ex_C, Cx G C Y { frames := F, cells := mc, slots := ms, locals := X } → Cr G C Y mc ms r es2 → Ev G C Y 0 (ex_en av) [] 0 0 es) : Con G Y F X mc ms av es r es2 := by
  refine Met.ofW (cc := Y.2.1) (maxL := Y.2.2.1) (ret := Y.2.2.2) hy rfl ?_
  intro p e s m args below meth c s₁ B hml hv
  obtain ⟨rfl, hK, hw⟩ := hv
  have hts := atoms_spec B.pre
  have hCx : Cx G (p, e, { frames := F, cells := mc, slots := ms, locals := X }, s, m, av.toArray, below, meth, c, MQ below (ex_Q G r es2) av.toArray s mc ms (ex_A G)) Y { frames := F, cells := mc, slots := ms, locals := X } :=
    ⟨B.exec, B.bytes, hml, findClass_of_methodNamed B.named, fun w hw => hts w (List.mem_cons_of_mem _ hw), rfl, hK⟩
  have hCr : Cr G (p, e, { frames := F, cells := mc, slots := ms, locals := X }, s, m, av.toArray, below, meth, c, MQ below (ex_Q G r es2) av.toArray s mc ms (ex_A G)) Y mc ms r es2 :=
    ⟨B.returns, B.notSynchronized, (name_of_methodNamed B.named B.method).1, rfl⟩
  have hl := lv_entry av (n := Y.2.2.1) hn
  rw [lg_entry_eq]
  exact h _ hCx hCr s.heap [] _ (ex_has_sub hl (ex_en_args av 0)) hw va_S.rf
