/-! THE CONSTRUCTORS: the world grows, cell by cell -/
theorem pa_len {pre l : List va_E} {n : Nat} (hn : pre.length = n) : (pre ++ l).length = n + l.length := by rw [List.length_append, hn]
theorem pa_get {pre l : List va_E} {n k : Nat} {x : va_E} (hn : pre.length = n) (h : l[k]? = some x) : (pre ++ l)[n + k]? = some x := by
  subst hn
  rw [List.getElem?_append_right (by omega), show pre.length + k - pre.length = k by omega]
  exact h
theorem pa_set {pre l : List va_E} {n k : Nat} {x : va_E} (hn : pre.length = n) : (pre ++ l).set (n + k) x = pre ++ l.set k x := by
  subst hn
  rw [List.set_append_right _ _ (by omega), show pre.length + k - pre.length = k by omega]
def upN (c : Nat → Nat) : Nat → Nat → Option Nat
  | 0 => fun _ => none
  | k + 1 => va_up (upN c k) k (some (c k))
theorem upN_rf (c : Nat → Nat) : ∀ k, upN c k = ex_rf k c
  | 0 => by funext i; simp [upN, ex_rf]
  | k + 1 => by
    funext i
    show va_up (upN c k) k (some (c k)) i = _
    rw [upN_rf c k]
    unfold va_up ex_rf
    by_cases h : i = k
    · rw [if_pos h, if_pos (by omega), h]
    · rw [if_neg h]
      by_cases h2 : i < k
      · rw [if_pos h2, if_pos (by omega)]
      · rw [if_neg h2, if_neg (by omega)]
section EvGrow
variable {G : ex_G} {C : ex_C} {Y Z : ex_Y} {R0 : Room} {pc cl sl cl2 sl2 n : Nat} {L : List (Option Value)} {S : List Value} {pre l l2 : List va_E}
theorem nw_new {idx ci NF m : Nat} {N0 : String} {T : u_T} {fs : List Value} (hn : pre.length = n) (ty0 : Nat → FieldType) (hty : ∀ k, k < NF → parseFieldDescriptor (T k).2.2.1 = some (ty0 k)) (hC : Cx G C Y R0) (hd : decode Y.2.1 pc = .ok (.new idx, 3)) (hcl : ex_cl[ci]? = some (N0, T, NF)) (hin : ∀ w ∈ u_ws N0 T NF, w ∈ ex_tb) (hck : Cond.classLink Y.1.cls idx N0 ∈ ex_tb) (hins : Cond.instantiable N0 NF ∈ ex_tb) (hini : Cond.initialized N0 ∈ ex_tb) (hfs : ∀ j, j < NF → defaultValue (ty0 j) = vp_V fs j) (hm : l.length = m) (hz : n + m < 83) (hl2 : l ++ [.inr (ci, fs)] = l2) (h1 : cl + 1 = cl2) (h2 : sl + NF = sl2) (hroom : cl2 ≤ R0.cells ∧ sl2 ≤ R0.slots)
    (k : Ev G C Y (pc + 3) L (.ref (ex_b G + (n + m)) :: S) cl2 sl2 (pre ++ l2)) : Ev G C Y pc L S cl sl (pre ++ l) := by
  subst h1 h2 hm
  refine ev_new (fs := fs) ty0 hty hC hd hcl hin hck hins hini hfs (by rw [pa_len hn]; exact hz) hroom ?_
  rw [pa_len hn, List.append_assoc, hl2]
  exact k
theorem nw_newI {x : Int32} {N m : Nat} (hn : pre.length = n) (hC : Cx G C Y R0) (hd : decode Y.2.1 pc = .ok (.newarray .int, 2)) (hx : ¬ x < 0) (hN : x.toNatClampNeg = N) (hb : N * 4 ≤ 536870912) (hm : l.length = m) (hz : n + m < 83) (hl2 : l ++ [.inl (ex_c G 0, N, .inl (fun _ => 0))] = l2) (h1 : cl + 1 = cl2) (h2 : sl + N = sl2) (hroom : cl2 ≤ R0.cells ∧ sl2 ≤ R0.slots)
    (k : Ev G C Y (pc + 2) L (.ref (ex_b G + (n + m)) :: S) cl2 sl2 (pre ++ l2)) : Ev G C Y pc L (.int x :: S) cl sl (pre ++ l) := by
  subst h1 h2 hm
  refine ev_newI hC hd ac_int hx hN hb (by rw [pa_len hn]; exact hz) hroom ?_
  rw [pa_len hn, List.append_assoc, hl2]
  exact k
theorem nw_newL {x : Int32} {N m : Nat} (hn : pre.length = n) (hC : Cx G C Y R0) (hd : decode Y.2.1 pc = .ok (.newarray .long, 2)) (hx : ¬ x < 0) (hN : x.toNatClampNeg = N) (hb : N * 8 ≤ 536870912) (hm : l.length = m) (hz : n + m < 83) (hl2 : l ++ [.inl (ex_c G 1, N, .inr (.inl (fun _ => 0)))] = l2) (h1 : cl + 1 = cl2) (h2 : sl + N = sl2) (hroom : cl2 ≤ R0.cells ∧ sl2 ≤ R0.slots)
    (k : Ev G C Y (pc + 2) L (.ref (ex_b G + (n + m)) :: S) cl2 sl2 (pre ++ l2)) : Ev G C Y pc L (.int x :: S) cl sl (pre ++ l) := by
  subst h1 h2 hm
  refine ev_newL hC hd ac_long hx hN hb (by rw [pa_len hn]; exact hz) hroom ?_
  rw [pa_len hn, List.append_assoc, hl2]
  exact k
theorem nw_newA {t idx m : Nat} {N0 : String} {x : Int32} {N : Nat} (hn : pre.length = n) (hC : Cx G C Y R0) (hd : decode Y.2.1 pc = .ok (.anewarray idx, 3)) (ht : (ex_ty G)[t]? = some (ex_c G t, .object N0)) (hck : Cond.classLink Y.1.cls idx N0 ∈ ex_tb) (hov : Cond.arrayOver (.object N0) ∈ lw_tbl) (hx : ¬ x < 0) (hN : x.toNatClampNeg = N) (hb : N * 4 ≤ 536870912) (hm : l.length = m) (hz : n + m < 83) (hl2 : l ++ [.inl (ex_c G t, N, .inr (.inr (.inr (.inr (fun _ => none)))))] = l2) (h1 : cl + 1 = cl2) (h2 : sl + N = sl2) (hroom : cl2 ≤ R0.cells ∧ sl2 ≤ R0.slots)
    (k : Ev G C Y (pc + 3) L (.ref (ex_b G + (n + m)) :: S) cl2 sl2 (pre ++ l2)) : Ev G C Y pc L (.int x :: S) cl sl (pre ++ l) := by
  subst h1 h2 hm
  refine ev_newA hC hd ht hck hov hx hN hb (by rw [pa_len hn]; exact hz) hroom ?_
  rw [pa_len hn, List.append_assoc, hl2]
  exact k
theorem nw_get {j ci idx k NF : Nat} {N0 : String} {T : u_T} {fs : List Value} {v : Value} (hn : pre.length = n) (hC : Cx G C Y R0) (hd : decode Y.2.1 pc = .ok (.getfield idx, 3)) (hcl : ex_cl[ci]? = some (N0, T, NF)) (hin : ∀ w ∈ u_ws N0 T NF, w ∈ ex_tb) (hk : Cond.fieldLink Y.1.cls idx N0 (T k).2.1 (T k).2.2.1 ∈ ex_tb) (hself : (T k).1 = N0) (hlt : k < NF) (he : l[j]? = some (.inr (ci, fs))) (hv : fs[k]? = some v) (k2 : Ev G C Y (pc + 3) L (v :: S) cl sl (pre ++ l)) : Ev G C Y pc L (.ref (ex_b G + (n + j)) :: S) cl sl (pre ++ l) :=
  ev_get hC hd hcl hin hk hself hlt (pa_get hn he) hv k2
theorem nw_put {j ci idx k NF : Nat} {N0 : String} {T : u_T} {fs : List Value} {v : Value} {ty : FieldType} (hn : pre.length = n) (ty0 : Nat → FieldType) (hty : ∀ k, k < NF → parseFieldDescriptor (T k).2.2.1 = some (ty0 k)) (hnm : ∀ a, a < NF → ∀ b, b < NF → a ≠ b → (T a).2.1 ≠ (T b).2.1) (hC : Cx G C Y R0) (hd : decode Y.2.1 pc = .ok (.putfield idx, 3)) (hcl : ex_cl[ci]? = some (N0, T, NF)) (hin : ∀ w ∈ u_ws N0 T NF, w ∈ ex_tb) (hk : Cond.fieldLink Y.1.cls idx N0 (T k).2.1 (T k).2.2.1 ∈ ex_tb) (hself : (T k).1 = N0) (hlt : k < NF) (hfin : (T k).2.2.2 = false) (hpd : parseFieldDescriptor (T k).2.2.1 = some ty) (hnw : narrow ty v = v) (hfit : fits ty v = true) (he : l[j]? = some (.inr (ci, fs))) (hfs : k < fs.length) (hl2 : l.set j (.inr (ci, fs.set k v)) = l2) (k2 : Ev G C Y (pc + 3) L S cl sl (pre ++ l2)) : Ev G C Y pc L (v :: .ref (ex_b G + (n + j)) :: S) cl sl (pre ++ l) :=
  ev_put ty0 hty hnm hC hd hcl hin hk hself hlt hfin hpd hnw hfit (pa_get hn he) hfs (by rw [pa_set hn, hl2]; exact k2)
theorem nw_putF {j ci idx k NF mc ms : Nat} {N0 : String} {T : u_T} {fs : List Value} {v : Value} {ty : FieldType} {r0 : Option Value} {es0 : List va_E} (hn : pre.length = n) (ty0 : Nat → FieldType) (hty : ∀ k, k < NF → parseFieldDescriptor (T k).2.2.1 = some (ty0 k)) (hnm : ∀ a, a < NF → ∀ b, b < NF → a ≠ b → (T a).2.1 ≠ (T b).2.1) (hC : Cx G C Y R0) (hR : Cr G C Y mc ms r0 es0) (hini : Y.1.name = "<init>") (hown : Y.1.cls = N0) (hd : decode Y.2.1 pc = .ok (.putfield idx, 3)) (hcl : ex_cl[ci]? = some (N0, T, NF)) (hin : ∀ w ∈ u_ws N0 T NF, w ∈ ex_tb) (hk : Cond.fieldLink Y.1.cls idx N0 (T k).2.1 (T k).2.2.1 ∈ ex_tb) (hself : (T k).1 = N0) (hlt : k < NF) (hfin : (T k).2.2.2 = true) (hpd : parseFieldDescriptor (T k).2.2.1 = some ty) (hnw : narrow ty v = v) (hfit : fits ty v = true) (he : l[j]? = some (.inr (ci, fs))) (hfs : k < fs.length) (hl2 : l.set j (.inr (ci, fs.set k v)) = l2) (k2 : Ev G C Y (pc + 3) L S cl sl (pre ++ l2)) : Ev G C Y pc L (v :: .ref (ex_b G + (n + j)) :: S) cl sl (pre ++ l) :=
  ev_putF ty0 hty hnm hC hR hini hown hd hcl hin hk hself hlt hfin hpd hnw hfit (pa_get hn he) hfs (by rw [pa_set hn, hl2]; exact k2)
theorem nw_aast {j j2 N t ci m : Nat} {q : vw_C} {vs : List Value} {f : Nat → Option Nat} {i : Int32} (hn : pre.length = n) (hC : Cx G C Y R0) (hd : decode Y.2.1 pc = .ok (.aastore, 1)) (ht : (ex_ty G)[t]? = some (ex_c G t, .object q.1)) (he : l[j]? = some (.inl (ex_c G t, N, .inr (.inr (.inr (.inr f)))))) (he2 : l[j2]? = some (.inr (ci, vs))) (hcl : ex_cl[ci]? = some q) (hi : vp_in i N) (hm : i.toNatClampNeg = m) (hl2 : l.set j (.inl (ex_c G t, N, .inr (.inr (.inr (.inr (va_up f m (some (ex_b G + (n + j2)))))))))  = l2)
    (k : Ev G C Y (pc + 1) L S cl sl (pre ++ l2)) : Ev G C Y pc L (.ref (ex_b G + (n + j2)) :: .int i :: .ref (ex_b G + (n + j)) :: S) cl sl (pre ++ l) := by
  subst hm
  exact ev_aast hC hd ht (pa_get hn he) (pa_get hn he2) hcl hi (by rw [pa_set hn, hl2]; exact k)
theorem nw_aastS {j i0 N m : Nat} {f : Nat → Option Nat} {i : Int32} (hn : pre.length = n) (hC : Cx G C Y R0) (hd : decode Y.2.1 pc = .ok (.aastore, 1)) (he : l[j]? = some (.inl (ex_c G 5, N, .inr (.inr (.inr (.inr f)))))) (hi0 : i0 < 14) (hi : vp_in i N) (hm : i.toNatClampNeg = m) (hl2 : l.set j (.inl (ex_c G 5, N, .inr (.inr (.inr (.inr (va_up f m (some (ex_sK G i0)))))))) = l2)
    (k : Ev G C Y (pc + 1) L S cl sl (pre ++ l2)) : Ev G C Y pc L (.ref (ex_sK G i0) :: .int i :: .ref (ex_b G + (n + j)) :: S) cl sl (pre ++ l) := by
  subst hm
  exact ev_aastS hC hd (pa_get hn he) hi0 ii_Str hi (by rw [pa_set hn, hl2]; exact k)
theorem nw_iast {j N m : Nat} {f : Nat → Int32} {i x : Int32} (hn : pre.length = n) (hC : Cx G C Y R0) (hd : decode Y.2.1 pc = .ok (.iastore, 1)) (he : l[j]? = some (.inl (ex_c G 0, N, .inl f))) (hi : vp_in i N) (hm : i.toNatClampNeg = m) (hl2 : l.set j (.inl (ex_c G 0, N, .inl (upd f m x))) = l2) (k2 : Ev G C Y (pc + 1) L S cl sl (pre ++ l2)) : Ev G C Y pc L (.int x :: .int i :: .ref (ex_b G + (n + j)) :: S) cl sl (pre ++ l) := by
  subst hm
  exact ev_iast hC hd (pa_get hn he) hi (by rw [pa_set hn, hl2]; exact k2)
end EvGrow
abbrev rfs (c : ClassId) (N : Nat) (f : Nat → Option Nat) : va_E := .inl (c, N, .inr (.inr (.inr (.inr f))))
def cO0 : va_E := .inr (2, [.int 0, .int 0, .int 0, .int 0, .int 0, .int 0, .int 0])
def cE0 : va_E := .inr (1, [.int 0, .int 0, .int 0])

theorem df_Best : ∀ j, j < 2 → defaultValue (tx_Best j) = vp_V [.int 0, .int 0] j := fun j hj => by
  rcases (by omega : j = 0 ∨ j = 1) with e | e <;> subst e <;> rfl
theorem df_Event : ∀ j, j < 3 → defaultValue (tx_Event j) = vp_V [.int 0, .int 0, .int 0] j := fun j hj => by
  rcases (by omega : j = 0 ∨ j = 1 ∨ j = 2) with e | e | e <;> subst e <;> rfl
theorem df_One : ∀ j, j < 7 → defaultValue (tx_One j) = vp_V [.int 0, .int 0, .int 0, .int 0, .int 0, .int 0, .int 0] j := fun j hj => by
  rcases (by omega : j = 0 ∨ j = 1 ∨ j = 2 ∨ j = 3 ∨ j = 4 ∨ j = 5 ∨ j = 6) with e | e | e | e | e | e | e <;> subst e <;> rfl
theorem df_River : ∀ j, j < 6 → defaultValue (tx_River j) = vp_V [.int 0, .int 0, .int 0, .int 0, .null, .null] j := fun j hj => by
  rcases (by omega : j = 0 ∨ j = 1 ∨ j = 2 ∨ j = 3 ∨ j = 4 ∨ j = 5) with e | e | e | e | e | e <;> subst e <;> rfl
theorem df_Sheet : ∀ j, j < 3 → defaultValue (tx_Sheet j) = vp_V [.int 0, .int 0, .null] j := fun j hj => by
  rcases (by omega : j = 0 ∨ j = 1 ∨ j = 2) with e | e | e <;> subst e <;> rfl
theorem df_Text : ∀ j, j < 7 → defaultValue (tx_Text j) = vp_V [.null, .int 0, .int 0, .int 0, .int 0, .int 0, .int 0] j := fun j hj => by
  rcases (by omega : j = 0 ∨ j = 1 ∨ j = 2 ∨ j = 3 ∨ j = 4 ∨ j = 5 ∨ j = 6) with e | e | e | e | e | e | e <;> subst e <;> rfl
theorem df_Day : ∀ j, j < 8 → defaultValue (tx_Day j) = vp_V [.null, .null, .null, .int 0, .null, .null, .null, .null] j := fun j hj => by
  rcases (by omega : j = 0 ∨ j = 1 ∨ j = 2 ∨ j = 3 ∨ j = 4 ∨ j = 5 ∨ j = 6 ∨ j = 7) with e | e | e | e | e | e | e | e <;> subst e <;> rfl
theorem df_Mod : ∀ j, j < 23 → defaultValue (tx_Mod j) = vp_V [.null, .null, .null, .int 0, .null, .int 0, .int 0, .null, .int 0, .int 0, .int 0, .int 0, .int 0, .int 0, .null, .null, .int 0, .int 0, .int 0, .null, .null, .null, .null] j := fun j hj => by
  rcases (by omega : j = 0 ∨ j = 1 ∨ j = 2 ∨ j = 3 ∨ j = 4 ∨ j = 5 ∨ j = 6 ∨ j = 7 ∨ j = 8 ∨ j = 9 ∨ j = 10 ∨ j = 11 ∨ j = 12 ∨ j = 13 ∨ j = 14 ∨ j = 15 ∨ j = 16 ∨ j = 17 ∨ j = 18 ∨ j = 19 ∨ j = 20 ∨ j = 21 ∨ j = 22) with e | e | e | e | e | e | e | e | e | e | e | e | e | e | e | e | e | e | e | e | e | e | e <;> subst e <;> rfl
theorem c_One_init {G : ex_G} {es : List va_E} {j : Nat} : Con G Y_One_init 1 20 0 0 [.ref (ex_b G + j)] es none es := by
  refine Con.ofF (plainFor_of_name (by decide +kernel)) (Nat.le_of_ble_eq_true rfl) (fun C hC hR => ?_)
  show Ev G C Y_One_init 0 [some (.ref (ex_b G + j))] [] 0 0 es
  refine ev_aload_n rfl hC d_One_init_0 ?_
  refine ev_objInit hC d_One_init_1 ml_One_3 im_Obj_init co_Obj_init ⟨Nat.le_of_ble_eq_true rfl, Nat.le_of_ble_eq_true rfl⟩ ?_
  exact ev_vret hC hR d_One_init_4 rfl rfl rfl
theorem c_Event_init {G : ex_G} {es : List va_E} {j : Nat} : Con G Y_Event_init 1 20 0 0 [.ref (ex_b G + j)] es none es := by
  refine Con.ofF (plainFor_of_name (by decide +kernel)) (Nat.le_of_ble_eq_true rfl) (fun C hC hR => ?_)
  show Ev G C Y_Event_init 0 [some (.ref (ex_b G + j))] [] 0 0 es
  refine ev_aload_n rfl hC d_Event_init_0 ?_
  refine ev_objInit hC d_Event_init_1 ml_Event_3 im_Obj_init co_Obj_init ⟨Nat.le_of_ble_eq_true rfl, Nat.le_of_ble_eq_true rfl⟩ ?_
  exact ev_vret hC hR d_Event_init_4 rfl rfl rfl
theorem c_Best_init {G : ex_G} {es : List va_E} {j : Nat} : Con G Y_Best_init 1 20 0 0 [.ref (ex_b G + j)] es none es := by
  refine Con.ofF (plainFor_of_name (by decide +kernel)) (Nat.le_of_ble_eq_true rfl) (fun C hC hR => ?_)
  show Ev G C Y_Best_init 0 [some (.ref (ex_b G + j))] [] 0 0 es
  refine ev_aload_n rfl hC d_Best_init_0 ?_
  refine ev_objInit hC d_Best_init_1 ml_Best_3 im_Obj_init co_Obj_init ⟨Nat.le_of_ble_eq_true rfl, Nat.le_of_ble_eq_true rfl⟩ ?_
  exact ev_vret hC hR d_Best_init_4 rfl rfl rfl
def cRv (G : ex_G) (n : Nat) : List va_E := [.inr (3, [.int 0, .int 5, .int 0, .int 0, .ref (ex_b G + (n + 1)), .ref (ex_b G + (n + 10))]), rfs (ex_c G 2) 8 (upN (fun i => ex_b G + (n + 2 + i)) 8), cO0, cO0, cO0, cO0, cO0, cO0, cO0, cO0, rfs (ex_c G 3) 8 (upN (fun i => ex_b G + (n + 11 + i)) 8), cE0, cE0, cE0, cE0, cE0, cE0, cE0, cE0]
set_option maxHeartbeats 4000000 in
set_option maxRecDepth 20000 in
theorem c_River_init {G : ex_G} {pre : List va_E} {n : Nat} (hn : pre.length = n) (hz : n + 19 ≤ 83) : Con G Y_River_init 2 40 18 96 [.ref (ex_b G + (n + 0))] (pre ++ [.inr (3, [.int 0, .int 0, .int 0, .int 0, .null, .null])]) none (pre ++ cRv G n) := by
  refine Con.ofF (plainFor_of_name (by decide +kernel)) (Nat.le_of_ble_eq_true rfl) (fun C hC hR => ?_)
  show Ev G C Y_River_init 0 [some (.ref (ex_b G + (n + 0)))] [] 0 0 (pre ++ [.inr (3, [.int 0, .int 0, .int 0, .int 0, .null, .null])])
  refine ev_aload_n rfl hC d_River_init_0 ?_
  refine ev_objInit hC d_River_init_1 ml_River_3 im_Obj_init co_Obj_init ⟨Nat.le_of_ble_eq_true rfl, Nat.le_of_ble_eq_true rfl⟩ ?_
  refine ev_aload_n rfl hC d_River_init_4 ?_
  refine ev_iconst (v := 0) rfl hC d_River_init_5 ?_
  refine nw_put (j := 0) (ci := 3) (k := 0) (N0 := "DayBehind$River") (T := fx_River) (NF := 6) (l2 := [.inr (3, [.int 0, .int 0, .int 0, .int 0, .null, .null])]) hn tx_River tk_River nx_River hC d_River_init_6 rfl iy_River fl_River_9 rfl (by decide) rfl rfl rfl rfl rfl (Nat.le_of_ble_eq_true rfl) rfl ?_
  refine ev_aload_n rfl hC d_River_init_9 ?_
  refine ev_iconst (v := 5) rfl hC d_River_init_10 ?_
  refine nw_put (j := 0) (ci := 3) (k := 1) (N0 := "DayBehind$River") (T := fx_River) (NF := 6) (l2 := [.inr (3, [.int 0, .int 5, .int 0, .int 0, .null, .null])]) hn tx_River tk_River nx_River hC d_River_init_11 rfl iy_River fl_River_15 rfl (by decide) rfl rfl rfl rfl rfl (Nat.le_of_ble_eq_true rfl) rfl ?_
  refine ev_aload_n rfl hC d_River_init_14 ?_
  refine ev_iconst (v := 0) rfl hC d_River_init_15 ?_
  refine nw_put (j := 0) (ci := 3) (k := 2) (N0 := "DayBehind$River") (T := fx_River) (NF := 6) (l2 := [.inr (3, [.int 0, .int 5, .int 0, .int 0, .null, .null])]) hn tx_River tk_River nx_River hC d_River_init_16 rfl iy_River fl_River_18 rfl (by decide) rfl rfl rfl rfl rfl (Nat.le_of_ble_eq_true rfl) rfl ?_
  refine ev_aload_n rfl hC d_River_init_19 ?_
  refine ev_iconst (v := 0) rfl hC d_River_init_20 ?_
  refine nw_put (j := 0) (ci := 3) (k := 3) (N0 := "DayBehind$River") (T := fx_River) (NF := 6) (l2 := [.inr (3, [.int 0, .int 5, .int 0, .int 0, .null, .null])]) hn tx_River tk_River nx_River hC d_River_init_21 rfl iy_River fl_River_21 rfl (by decide) rfl rfl rfl rfl rfl (Nat.le_of_ble_eq_true rfl) rfl ?_
  refine ev_aload_n rfl hC d_River_init_24 ?_
  refine ev_bipush (v := 8) rfl hC d_River_init_25 ?_
  refine nw_newA (t := 2) (N0 := "DayBehind$One") (N := 8) (m := 1) (cl2 := 1) (sl2 := 8) (l2 := [.inr (3, [.int 0, .int 5, .int 0, .int 0, .null, .null]), rfs (ex_c G 2) 8 (upN (fun i => ex_b G + (n + 2 + i)) 0)]) hn hC d_River_init_27 rfl kc_River_24 ao_One (by decide) (by decide) (by decide) rfl (by omega) rfl rfl rfl ⟨Nat.le_of_ble_eq_true rfl, Nat.le_of_ble_eq_true rfl⟩ ?_
  refine nw_putF (j := 0) (ci := 3) (k := 4) (N0 := "DayBehind$River") (T := fx_River) (NF := 6) (l2 := [.inr (3, [.int 0, .int 5, .int 0, .int 0, .ref (ex_b G + (n + 1)), .null]), rfs (ex_c G 2) 8 (upN (fun i => ex_b G + (n + 2 + i)) 0)]) hn tx_River tk_River nx_River hC hR rfl rfl d_River_init_30 rfl iy_River fl_River_26 rfl (by decide) rfl rfl rfl rfl rfl (Nat.le_of_ble_eq_true rfl) rfl ?_
  refine ev_iconst (v := nI 0) rfl hC d_River_init_33 ?_
  refine ev_istore_n (by decide) hC d_River_init_34 ?_
  refine ev_iload_n rfl hC d_River_init_35 ?_
  refine ev_bipush (v := nI 8) rfl hC d_River_init_36 ?_
  refine ev_icmp_ge 60 hC d_River_init_38 rfl (fun h => absurd h (by decide)) (fun _ => ?_)
  refine ev_aload_n rfl hC d_River_init_41 ?_
  refine nw_get (j := 0) (ci := 3) (k := 4) (N0 := "DayBehind$River") (T := fx_River) (NF := 6) hn hC d_River_init_42 rfl iy_River fl_River_26 rfl (by decide) rfl rfl ?_
  refine ev_iload_n rfl hC d_River_init_45 ?_
  refine nw_new (ci := 2) (N0 := "DayBehind$One") (T := fx_One) (NF := 7) (fs := [.int 0, .int 0, .int 0, .int 0, .int 0, .int 0, .int 0]) (m := 2) (cl2 := 2) (sl2 := 15) (l2 := [.inr (3, [.int 0, .int 5, .int 0, .int 0, .ref (ex_b G + (n + 1)), .null]), rfs (ex_c G 2) 8 (upN (fun i => ex_b G + (n + 2 + i)) 0), cO0]) hn tx_One tk_One hC d_River_init_46 rfl iy_One kc_River_24 is_One ii_One df_One rfl (by omega) rfl rfl rfl ⟨Nat.le_of_ble_eq_true rfl, Nat.le_of_ble_eq_true rfl⟩ ?_
  refine ev_dup rfl hC d_River_init_49 ?_
  refine ev_callIN (j := n + 2) (As := []) hC d_River_init_50 (c_One_init) mi_One_init rfl rfl ml_River_30 im_One_init ⟨Nat.le_of_ble_eq_true rfl, Nat.le_of_ble_eq_true rfl⟩ ⟨Nat.le_of_ble_eq_true rfl, Nat.le_of_ble_eq_true rfl⟩ rfl rfl (Nat.le_of_ble_eq_true rfl) ?_
  show Ev _ _ _ _ _ _ 2 15 (pre ++ [.inr (3, [.int 0, .int 5, .int 0, .int 0, .ref (ex_b G + (n + 1)), .null]), rfs (ex_c G 2) 8 (upN (fun i => ex_b G + (n + 2 + i)) 0), cO0])
  refine nw_aast (j := 1) (j2 := 2) (N := 8) (t := 2) (ci := 2) (m := 0) (f := upN (fun i => ex_b G + (n + 2 + i)) 0) (l2 := [.inr (3, [.int 0, .int 5, .int 0, .int 0, .ref (ex_b G + (n + 1)), .null]), rfs (ex_c G 2) 8 (upN (fun i => ex_b G + (n + 2 + i)) 1), cO0]) hn hC d_River_init_53 rfl rfl rfl rfl (vp_in_nI (by decide) (by decide)) (by decide) rfl ?_
  refine ev_iinc rfl (by decide) (nI_1 _) hC d_River_init_54 ?_
  refine ev_goto 35 hC d_River_init_57 rfl ?_
  refine ev_iload_n rfl hC d_River_init_35 ?_
  refine ev_bipush (v := nI 8) rfl hC d_River_init_36 ?_
  refine ev_icmp_ge 60 hC d_River_init_38 rfl (fun h => absurd h (by decide)) (fun _ => ?_)
  refine ev_aload_n rfl hC d_River_init_41 ?_
  refine nw_get (j := 0) (ci := 3) (k := 4) (N0 := "DayBehind$River") (T := fx_River) (NF := 6) hn hC d_River_init_42 rfl iy_River fl_River_26 rfl (by decide) rfl rfl ?_
  refine ev_iload_n rfl hC d_River_init_45 ?_
  refine nw_new (ci := 2) (N0 := "DayBehind$One") (T := fx_One) (NF := 7) (fs := [.int 0, .int 0, .int 0, .int 0, .int 0, .int 0, .int 0]) (m := 3) (cl2 := 3) (sl2 := 22) (l2 := [.inr (3, [.int 0, .int 5, .int 0, .int 0, .ref (ex_b G + (n + 1)), .null]), rfs (ex_c G 2) 8 (upN (fun i => ex_b G + (n + 2 + i)) 1), cO0, cO0]) hn tx_One tk_One hC d_River_init_46 rfl iy_One kc_River_24 is_One ii_One df_One rfl (by omega) rfl rfl rfl ⟨Nat.le_of_ble_eq_true rfl, Nat.le_of_ble_eq_true rfl⟩ ?_
  refine ev_dup rfl hC d_River_init_49 ?_
  refine ev_callIN (j := n + 3) (As := []) hC d_River_init_50 (c_One_init) mi_One_init rfl rfl ml_River_30 im_One_init ⟨Nat.le_of_ble_eq_true rfl, Nat.le_of_ble_eq_true rfl⟩ ⟨Nat.le_of_ble_eq_true rfl, Nat.le_of_ble_eq_true rfl⟩ rfl rfl (Nat.le_of_ble_eq_true rfl) ?_
  show Ev _ _ _ _ _ _ 3 22 (pre ++ [.inr (3, [.int 0, .int 5, .int 0, .int 0, .ref (ex_b G + (n + 1)), .null]), rfs (ex_c G 2) 8 (upN (fun i => ex_b G + (n + 2 + i)) 1), cO0, cO0])
  refine nw_aast (j := 1) (j2 := 3) (N := 8) (t := 2) (ci := 2) (m := 1) (f := upN (fun i => ex_b G + (n + 2 + i)) 1) (l2 := [.inr (3, [.int 0, .int 5, .int 0, .int 0, .ref (ex_b G + (n + 1)), .null]), rfs (ex_c G 2) 8 (upN (fun i => ex_b G + (n + 2 + i)) 2), cO0, cO0]) hn hC d_River_init_53 rfl rfl rfl rfl (vp_in_nI (by decide) (by decide)) (by decide) rfl ?_
  refine ev_iinc rfl (by decide) (nI_1 _) hC d_River_init_54 ?_
  refine ev_goto 35 hC d_River_init_57 rfl ?_
  refine ev_iload_n rfl hC d_River_init_35 ?_
  refine ev_bipush (v := nI 8) rfl hC d_River_init_36 ?_
  refine ev_icmp_ge 60 hC d_River_init_38 rfl (fun h => absurd h (by decide)) (fun _ => ?_)
  refine ev_aload_n rfl hC d_River_init_41 ?_
  refine nw_get (j := 0) (ci := 3) (k := 4) (N0 := "DayBehind$River") (T := fx_River) (NF := 6) hn hC d_River_init_42 rfl iy_River fl_River_26 rfl (by decide) rfl rfl ?_
  refine ev_iload_n rfl hC d_River_init_45 ?_
  refine nw_new (ci := 2) (N0 := "DayBehind$One") (T := fx_One) (NF := 7) (fs := [.int 0, .int 0, .int 0, .int 0, .int 0, .int 0, .int 0]) (m := 4) (cl2 := 4) (sl2 := 29) (l2 := [.inr (3, [.int 0, .int 5, .int 0, .int 0, .ref (ex_b G + (n + 1)), .null]), rfs (ex_c G 2) 8 (upN (fun i => ex_b G + (n + 2 + i)) 2), cO0, cO0, cO0]) hn tx_One tk_One hC d_River_init_46 rfl iy_One kc_River_24 is_One ii_One df_One rfl (by omega) rfl rfl rfl ⟨Nat.le_of_ble_eq_true rfl, Nat.le_of_ble_eq_true rfl⟩ ?_
  refine ev_dup rfl hC d_River_init_49 ?_
  refine ev_callIN (j := n + 4) (As := []) hC d_River_init_50 (c_One_init) mi_One_init rfl rfl ml_River_30 im_One_init ⟨Nat.le_of_ble_eq_true rfl, Nat.le_of_ble_eq_true rfl⟩ ⟨Nat.le_of_ble_eq_true rfl, Nat.le_of_ble_eq_true rfl⟩ rfl rfl (Nat.le_of_ble_eq_true rfl) ?_
  show Ev _ _ _ _ _ _ 4 29 (pre ++ [.inr (3, [.int 0, .int 5, .int 0, .int 0, .ref (ex_b G + (n + 1)), .null]), rfs (ex_c G 2) 8 (upN (fun i => ex_b G + (n + 2 + i)) 2), cO0, cO0, cO0])
  refine nw_aast (j := 1) (j2 := 4) (N := 8) (t := 2) (ci := 2) (m := 2) (f := upN (fun i => ex_b G + (n + 2 + i)) 2) (l2 := [.inr (3, [.int 0, .int 5, .int 0, .int 0, .ref (ex_b G + (n + 1)), .null]), rfs (ex_c G 2) 8 (upN (fun i => ex_b G + (n + 2 + i)) 3), cO0, cO0, cO0]) hn hC d_River_init_53 rfl rfl rfl rfl (vp_in_nI (by decide) (by decide)) (by decide) rfl ?_
  refine ev_iinc rfl (by decide) (nI_1 _) hC d_River_init_54 ?_
  refine ev_goto 35 hC d_River_init_57 rfl ?_
  refine ev_iload_n rfl hC d_River_init_35 ?_
  refine ev_bipush (v := nI 8) rfl hC d_River_init_36 ?_
  refine ev_icmp_ge 60 hC d_River_init_38 rfl (fun h => absurd h (by decide)) (fun _ => ?_)
  refine ev_aload_n rfl hC d_River_init_41 ?_
  refine nw_get (j := 0) (ci := 3) (k := 4) (N0 := "DayBehind$River") (T := fx_River) (NF := 6) hn hC d_River_init_42 rfl iy_River fl_River_26 rfl (by decide) rfl rfl ?_
  refine ev_iload_n rfl hC d_River_init_45 ?_
  refine nw_new (ci := 2) (N0 := "DayBehind$One") (T := fx_One) (NF := 7) (fs := [.int 0, .int 0, .int 0, .int 0, .int 0, .int 0, .int 0]) (m := 5) (cl2 := 5) (sl2 := 36) (l2 := [.inr (3, [.int 0, .int 5, .int 0, .int 0, .ref (ex_b G + (n + 1)), .null]), rfs (ex_c G 2) 8 (upN (fun i => ex_b G + (n + 2 + i)) 3), cO0, cO0, cO0, cO0]) hn tx_One tk_One hC d_River_init_46 rfl iy_One kc_River_24 is_One ii_One df_One rfl (by omega) rfl rfl rfl ⟨Nat.le_of_ble_eq_true rfl, Nat.le_of_ble_eq_true rfl⟩ ?_
  refine ev_dup rfl hC d_River_init_49 ?_
  refine ev_callIN (j := n + 5) (As := []) hC d_River_init_50 (c_One_init) mi_One_init rfl rfl ml_River_30 im_One_init ⟨Nat.le_of_ble_eq_true rfl, Nat.le_of_ble_eq_true rfl⟩ ⟨Nat.le_of_ble_eq_true rfl, Nat.le_of_ble_eq_true rfl⟩ rfl rfl (Nat.le_of_ble_eq_true rfl) ?_
  show Ev _ _ _ _ _ _ 5 36 (pre ++ [.inr (3, [.int 0, .int 5, .int 0, .int 0, .ref (ex_b G + (n + 1)), .null]), rfs (ex_c G 2) 8 (upN (fun i => ex_b G + (n + 2 + i)) 3), cO0, cO0, cO0, cO0])
  refine nw_aast (j := 1) (j2 := 5) (N := 8) (t := 2) (ci := 2) (m := 3) (f := upN (fun i => ex_b G + (n + 2 + i)) 3) (l2 := [.inr (3, [.int 0, .int 5, .int 0, .int 0, .ref (ex_b G + (n + 1)), .null]), rfs (ex_c G 2) 8 (upN (fun i => ex_b G + (n + 2 + i)) 4), cO0, cO0, cO0, cO0]) hn hC d_River_init_53 rfl rfl rfl rfl (vp_in_nI (by decide) (by decide)) (by decide) rfl ?_
  refine ev_iinc rfl (by decide) (nI_1 _) hC d_River_init_54 ?_
  refine ev_goto 35 hC d_River_init_57 rfl ?_
  refine ev_iload_n rfl hC d_River_init_35 ?_
  refine ev_bipush (v := nI 8) rfl hC d_River_init_36 ?_
  refine ev_icmp_ge 60 hC d_River_init_38 rfl (fun h => absurd h (by decide)) (fun _ => ?_)
  refine ev_aload_n rfl hC d_River_init_41 ?_
  refine nw_get (j := 0) (ci := 3) (k := 4) (N0 := "DayBehind$River") (T := fx_River) (NF := 6) hn hC d_River_init_42 rfl iy_River fl_River_26 rfl (by decide) rfl rfl ?_
  refine ev_iload_n rfl hC d_River_init_45 ?_
  refine nw_new (ci := 2) (N0 := "DayBehind$One") (T := fx_One) (NF := 7) (fs := [.int 0, .int 0, .int 0, .int 0, .int 0, .int 0, .int 0]) (m := 6) (cl2 := 6) (sl2 := 43) (l2 := [.inr (3, [.int 0, .int 5, .int 0, .int 0, .ref (ex_b G + (n + 1)), .null]), rfs (ex_c G 2) 8 (upN (fun i => ex_b G + (n + 2 + i)) 4), cO0, cO0, cO0, cO0, cO0]) hn tx_One tk_One hC d_River_init_46 rfl iy_One kc_River_24 is_One ii_One df_One rfl (by omega) rfl rfl rfl ⟨Nat.le_of_ble_eq_true rfl, Nat.le_of_ble_eq_true rfl⟩ ?_
  refine ev_dup rfl hC d_River_init_49 ?_
  refine ev_callIN (j := n + 6) (As := []) hC d_River_init_50 (c_One_init) mi_One_init rfl rfl ml_River_30 im_One_init ⟨Nat.le_of_ble_eq_true rfl, Nat.le_of_ble_eq_true rfl⟩ ⟨Nat.le_of_ble_eq_true rfl, Nat.le_of_ble_eq_true rfl⟩ rfl rfl (Nat.le_of_ble_eq_true rfl) ?_
  show Ev _ _ _ _ _ _ 6 43 (pre ++ [.inr (3, [.int 0, .int 5, .int 0, .int 0, .ref (ex_b G + (n + 1)), .null]), rfs (ex_c G 2) 8 (upN (fun i => ex_b G + (n + 2 + i)) 4), cO0, cO0, cO0, cO0, cO0])
  refine nw_aast (j := 1) (j2 := 6) (N := 8) (t := 2) (ci := 2) (m := 4) (f := upN (fun i => ex_b G + (n + 2 + i)) 4) (l2 := [.inr (3, [.int 0, .int 5, .int 0, .int 0, .ref (ex_b G + (n + 1)), .null]), rfs (ex_c G 2) 8 (upN (fun i => ex_b G + (n + 2 + i)) 5), cO0, cO0, cO0, cO0, cO0]) hn hC d_River_init_53 rfl rfl rfl rfl (vp_in_nI (by decide) (by decide)) (by decide) rfl ?_
  refine ev_iinc rfl (by decide) (nI_1 _) hC d_River_init_54 ?_
  refine ev_goto 35 hC d_River_init_57 rfl ?_
  refine ev_iload_n rfl hC d_River_init_35 ?_
  refine ev_bipush (v := nI 8) rfl hC d_River_init_36 ?_
  refine ev_icmp_ge 60 hC d_River_init_38 rfl (fun h => absurd h (by decide)) (fun _ => ?_)
  refine ev_aload_n rfl hC d_River_init_41 ?_
  refine nw_get (j := 0) (ci := 3) (k := 4) (N0 := "DayBehind$River") (T := fx_River) (NF := 6) hn hC d_River_init_42 rfl iy_River fl_River_26 rfl (by decide) rfl rfl ?_
  refine ev_iload_n rfl hC d_River_init_45 ?_
  refine nw_new (ci := 2) (N0 := "DayBehind$One") (T := fx_One) (NF := 7) (fs := [.int 0, .int 0, .int 0, .int 0, .int 0, .int 0, .int 0]) (m := 7) (cl2 := 7) (sl2 := 50) (l2 := [.inr (3, [.int 0, .int 5, .int 0, .int 0, .ref (ex_b G + (n + 1)), .null]), rfs (ex_c G 2) 8 (upN (fun i => ex_b G + (n + 2 + i)) 5), cO0, cO0, cO0, cO0, cO0, cO0]) hn tx_One tk_One hC d_River_init_46 rfl iy_One kc_River_24 is_One ii_One df_One rfl (by omega) rfl rfl rfl ⟨Nat.le_of_ble_eq_true rfl, Nat.le_of_ble_eq_true rfl⟩ ?_
  refine ev_dup rfl hC d_River_init_49 ?_
  refine ev_callIN (j := n + 7) (As := []) hC d_River_init_50 (c_One_init) mi_One_init rfl rfl ml_River_30 im_One_init ⟨Nat.le_of_ble_eq_true rfl, Nat.le_of_ble_eq_true rfl⟩ ⟨Nat.le_of_ble_eq_true rfl, Nat.le_of_ble_eq_true rfl⟩ rfl rfl (Nat.le_of_ble_eq_true rfl) ?_
  show Ev _ _ _ _ _ _ 7 50 (pre ++ [.inr (3, [.int 0, .int 5, .int 0, .int 0, .ref (ex_b G + (n + 1)), .null]), rfs (ex_c G 2) 8 (upN (fun i => ex_b G + (n + 2 + i)) 5), cO0, cO0, cO0, cO0, cO0, cO0])
  refine nw_aast (j := 1) (j2 := 7) (N := 8) (t := 2) (ci := 2) (m := 5) (f := upN (fun i => ex_b G + (n + 2 + i)) 5) (l2 := [.inr (3, [.int 0, .int 5, .int 0, .int 0, .ref (ex_b G + (n + 1)), .null]), rfs (ex_c G 2) 8 (upN (fun i => ex_b G + (n + 2 + i)) 6), cO0, cO0, cO0, cO0, cO0, cO0]) hn hC d_River_init_53 rfl rfl rfl rfl (vp_in_nI (by decide) (by decide)) (by decide) rfl ?_
  refine ev_iinc rfl (by decide) (nI_1 _) hC d_River_init_54 ?_
  refine ev_goto 35 hC d_River_init_57 rfl ?_
  refine ev_iload_n rfl hC d_River_init_35 ?_
  refine ev_bipush (v := nI 8) rfl hC d_River_init_36 ?_
  refine ev_icmp_ge 60 hC d_River_init_38 rfl (fun h => absurd h (by decide)) (fun _ => ?_)
  refine ev_aload_n rfl hC d_River_init_41 ?_
  refine nw_get (j := 0) (ci := 3) (k := 4) (N0 := "DayBehind$River") (T := fx_River) (NF := 6) hn hC d_River_init_42 rfl iy_River fl_River_26 rfl (by decide) rfl rfl ?_
  refine ev_iload_n rfl hC d_River_init_45 ?_
  refine nw_new (ci := 2) (N0 := "DayBehind$One") (T := fx_One) (NF := 7) (fs := [.int 0, .int 0, .int 0, .int 0, .int 0, .int 0, .int 0]) (m := 8) (cl2 := 8) (sl2 := 57) (l2 := [.inr (3, [.int 0, .int 5, .int 0, .int 0, .ref (ex_b G + (n + 1)), .null]), rfs (ex_c G 2) 8 (upN (fun i => ex_b G + (n + 2 + i)) 6), cO0, cO0, cO0, cO0, cO0, cO0, cO0]) hn tx_One tk_One hC d_River_init_46 rfl iy_One kc_River_24 is_One ii_One df_One rfl (by omega) rfl rfl rfl ⟨Nat.le_of_ble_eq_true rfl, Nat.le_of_ble_eq_true rfl⟩ ?_
  refine ev_dup rfl hC d_River_init_49 ?_
  refine ev_callIN (j := n + 8) (As := []) hC d_River_init_50 (c_One_init) mi_One_init rfl rfl ml_River_30 im_One_init ⟨Nat.le_of_ble_eq_true rfl, Nat.le_of_ble_eq_true rfl⟩ ⟨Nat.le_of_ble_eq_true rfl, Nat.le_of_ble_eq_true rfl⟩ rfl rfl (Nat.le_of_ble_eq_true rfl) ?_
  show Ev _ _ _ _ _ _ 8 57 (pre ++ [.inr (3, [.int 0, .int 5, .int 0, .int 0, .ref (ex_b G + (n + 1)), .null]), rfs (ex_c G 2) 8 (upN (fun i => ex_b G + (n + 2 + i)) 6), cO0, cO0, cO0, cO0, cO0, cO0, cO0])
  refine nw_aast (j := 1) (j2 := 8) (N := 8) (t := 2) (ci := 2) (m := 6) (f := upN (fun i => ex_b G + (n + 2 + i)) 6) (l2 := [.inr (3, [.int 0, .int 5, .int 0, .int 0, .ref (ex_b G + (n + 1)), .null]), rfs (ex_c G 2) 8 (upN (fun i => ex_b G + (n + 2 + i)) 7), cO0, cO0, cO0, cO0, cO0, cO0, cO0]) hn hC d_River_init_53 rfl rfl rfl rfl (vp_in_nI (by decide) (by decide)) (by decide) rfl ?_
  refine ev_iinc rfl (by decide) (nI_1 _) hC d_River_init_54 ?_
  refine ev_goto 35 hC d_River_init_57 rfl ?_
  refine ev_iload_n rfl hC d_River_init_35 ?_
  refine ev_bipush (v := nI 8) rfl hC d_River_init_36 ?_
  refine ev_icmp_ge 60 hC d_River_init_38 rfl (fun h => absurd h (by decide)) (fun _ => ?_)
  refine ev_aload_n rfl hC d_River_init_41 ?_
  refine nw_get (j := 0) (ci := 3) (k := 4) (N0 := "DayBehind$River") (T := fx_River) (NF := 6) hn hC d_River_init_42 rfl iy_River fl_River_26 rfl (by decide) rfl rfl ?_
  refine ev_iload_n rfl hC d_River_init_45 ?_
  refine nw_new (ci := 2) (N0 := "DayBehind$One") (T := fx_One) (NF := 7) (fs := [.int 0, .int 0, .int 0, .int 0, .int 0, .int 0, .int 0]) (m := 9) (cl2 := 9) (sl2 := 64) (l2 := [.inr (3, [.int 0, .int 5, .int 0, .int 0, .ref (ex_b G + (n + 1)), .null]), rfs (ex_c G 2) 8 (upN (fun i => ex_b G + (n + 2 + i)) 7), cO0, cO0, cO0, cO0, cO0, cO0, cO0, cO0]) hn tx_One tk_One hC d_River_init_46 rfl iy_One kc_River_24 is_One ii_One df_One rfl (by omega) rfl rfl rfl ⟨Nat.le_of_ble_eq_true rfl, Nat.le_of_ble_eq_true rfl⟩ ?_
  refine ev_dup rfl hC d_River_init_49 ?_
  refine ev_callIN (j := n + 9) (As := []) hC d_River_init_50 (c_One_init) mi_One_init rfl rfl ml_River_30 im_One_init ⟨Nat.le_of_ble_eq_true rfl, Nat.le_of_ble_eq_true rfl⟩ ⟨Nat.le_of_ble_eq_true rfl, Nat.le_of_ble_eq_true rfl⟩ rfl rfl (Nat.le_of_ble_eq_true rfl) ?_
  show Ev _ _ _ _ _ _ 9 64 (pre ++ [.inr (3, [.int 0, .int 5, .int 0, .int 0, .ref (ex_b G + (n + 1)), .null]), rfs (ex_c G 2) 8 (upN (fun i => ex_b G + (n + 2 + i)) 7), cO0, cO0, cO0, cO0, cO0, cO0, cO0, cO0])
  refine nw_aast (j := 1) (j2 := 9) (N := 8) (t := 2) (ci := 2) (m := 7) (f := upN (fun i => ex_b G + (n + 2 + i)) 7) (l2 := [.inr (3, [.int 0, .int 5, .int 0, .int 0, .ref (ex_b G + (n + 1)), .null]), rfs (ex_c G 2) 8 (upN (fun i => ex_b G + (n + 2 + i)) 8), cO0, cO0, cO0, cO0, cO0, cO0, cO0, cO0]) hn hC d_River_init_53 rfl rfl rfl rfl (vp_in_nI (by decide) (by decide)) (by decide) rfl ?_
  refine ev_iinc rfl (by decide) (nI_1 _) hC d_River_init_54 ?_
  refine ev_goto 35 hC d_River_init_57 rfl ?_
  refine ev_iload_n rfl hC d_River_init_35 ?_
  refine ev_bipush (v := nI 8) rfl hC d_River_init_36 ?_
  refine ev_icmp_ge 60 hC d_River_init_38 rfl (fun _ => ?_) (fun h => absurd (by decide) h)
  refine ev_aload_n rfl hC d_River_init_60 ?_
  refine ev_bipush (v := 8) rfl hC d_River_init_61 ?_
  refine nw_newA (t := 3) (N0 := "DayBehind$Event") (N := 8) (m := 10) (cl2 := 10) (sl2 := 72) (l2 := [.inr (3, [.int 0, .int 5, .int 0, .int 0, .ref (ex_b G + (n + 1)), .null]), rfs (ex_c G 2) 8 (upN (fun i => ex_b G + (n + 2 + i)) 8), cO0, cO0, cO0, cO0, cO0, cO0, cO0, cO0, rfs (ex_c G 3) 8 (upN (fun i => ex_b G + (n + 11 + i)) 0)]) hn hC d_River_init_63 rfl kc_River_31 ao_Event (by decide) (by decide) (by decide) rfl (by omega) rfl rfl rfl ⟨Nat.le_of_ble_eq_true rfl, Nat.le_of_ble_eq_true rfl⟩ ?_
  refine nw_putF (j := 0) (ci := 3) (k := 5) (N0 := "DayBehind$River") (T := fx_River) (NF := 6) (l2 := [.inr (3, [.int 0, .int 5, .int 0, .int 0, .ref (ex_b G + (n + 1)), .ref (ex_b G + (n + 10))]), rfs (ex_c G 2) 8 (upN (fun i => ex_b G + (n + 2 + i)) 8), cO0, cO0, cO0, cO0, cO0, cO0, cO0, cO0, rfs (ex_c G 3) 8 (upN (fun i => ex_b G + (n + 11 + i)) 0)]) hn tx_River tk_River nx_River hC hR rfl rfl d_River_init_66 rfl iy_River fl_River_33 rfl (by decide) rfl rfl rfl rfl rfl (Nat.le_of_ble_eq_true rfl) rfl ?_
  refine ev_iconst (v := nI 0) rfl hC d_River_init_69 ?_
  refine ev_istore_n (by decide) hC d_River_init_70 ?_
  refine ev_iload_n rfl hC d_River_init_71 ?_
  refine ev_bipush (v := nI 8) rfl hC d_River_init_72 ?_
  refine ev_icmp_ge 96 hC d_River_init_74 rfl (fun h => absurd h (by decide)) (fun _ => ?_)
  refine ev_aload_n rfl hC d_River_init_77 ?_
  refine nw_get (j := 0) (ci := 3) (k := 5) (N0 := "DayBehind$River") (T := fx_River) (NF := 6) hn hC d_River_init_78 rfl iy_River fl_River_33 rfl (by decide) rfl rfl ?_
  refine ev_iload_n rfl hC d_River_init_81 ?_
  refine nw_new (ci := 1) (N0 := "DayBehind$Event") (T := fx_Event) (NF := 3) (fs := [.int 0, .int 0, .int 0]) (m := 11) (cl2 := 11) (sl2 := 75) (l2 := [.inr (3, [.int 0, .int 5, .int 0, .int 0, .ref (ex_b G + (n + 1)), .ref (ex_b G + (n + 10))]), rfs (ex_c G 2) 8 (upN (fun i => ex_b G + (n + 2 + i)) 8), cO0, cO0, cO0, cO0, cO0, cO0, cO0, cO0, rfs (ex_c G 3) 8 (upN (fun i => ex_b G + (n + 11 + i)) 0), cE0]) hn tx_Event tk_Event hC d_River_init_82 rfl iy_Event kc_River_31 is_Event ii_Event df_Event rfl (by omega) rfl rfl rfl ⟨Nat.le_of_ble_eq_true rfl, Nat.le_of_ble_eq_true rfl⟩ ?_
  refine ev_dup rfl hC d_River_init_85 ?_
  refine ev_callIN (j := n + 11) (As := []) hC d_River_init_86 (c_Event_init) mi_Event_init rfl rfl ml_River_37 im_Event_init ⟨Nat.le_of_ble_eq_true rfl, Nat.le_of_ble_eq_true rfl⟩ ⟨Nat.le_of_ble_eq_true rfl, Nat.le_of_ble_eq_true rfl⟩ rfl rfl (Nat.le_of_ble_eq_true rfl) ?_
  show Ev _ _ _ _ _ _ 11 75 (pre ++ [.inr (3, [.int 0, .int 5, .int 0, .int 0, .ref (ex_b G + (n + 1)), .ref (ex_b G + (n + 10))]), rfs (ex_c G 2) 8 (upN (fun i => ex_b G + (n + 2 + i)) 8), cO0, cO0, cO0, cO0, cO0, cO0, cO0, cO0, rfs (ex_c G 3) 8 (upN (fun i => ex_b G + (n + 11 + i)) 0), cE0])
  refine nw_aast (j := 10) (j2 := 11) (N := 8) (t := 3) (ci := 1) (m := 0) (f := upN (fun i => ex_b G + (n + 11 + i)) 0) (l2 := [.inr (3, [.int 0, .int 5, .int 0, .int 0, .ref (ex_b G + (n + 1)), .ref (ex_b G + (n + 10))]), rfs (ex_c G 2) 8 (upN (fun i => ex_b G + (n + 2 + i)) 8), cO0, cO0, cO0, cO0, cO0, cO0, cO0, cO0, rfs (ex_c G 3) 8 (upN (fun i => ex_b G + (n + 11 + i)) 1), cE0]) hn hC d_River_init_89 rfl rfl rfl rfl (vp_in_nI (by decide) (by decide)) (by decide) rfl ?_
  refine ev_iinc rfl (by decide) (nI_1 _) hC d_River_init_90 ?_
  refine ev_goto 71 hC d_River_init_93 rfl ?_
  refine ev_iload_n rfl hC d_River_init_71 ?_
  refine ev_bipush (v := nI 8) rfl hC d_River_init_72 ?_
  refine ev_icmp_ge 96 hC d_River_init_74 rfl (fun h => absurd h (by decide)) (fun _ => ?_)
  refine ev_aload_n rfl hC d_River_init_77 ?_
  refine nw_get (j := 0) (ci := 3) (k := 5) (N0 := "DayBehind$River") (T := fx_River) (NF := 6) hn hC d_River_init_78 rfl iy_River fl_River_33 rfl (by decide) rfl rfl ?_
  refine ev_iload_n rfl hC d_River_init_81 ?_
  refine nw_new (ci := 1) (N0 := "DayBehind$Event") (T := fx_Event) (NF := 3) (fs := [.int 0, .int 0, .int 0]) (m := 12) (cl2 := 12) (sl2 := 78) (l2 := [.inr (3, [.int 0, .int 5, .int 0, .int 0, .ref (ex_b G + (n + 1)), .ref (ex_b G + (n + 10))]), rfs (ex_c G 2) 8 (upN (fun i => ex_b G + (n + 2 + i)) 8), cO0, cO0, cO0, cO0, cO0, cO0, cO0, cO0, rfs (ex_c G 3) 8 (upN (fun i => ex_b G + (n + 11 + i)) 1), cE0, cE0]) hn tx_Event tk_Event hC d_River_init_82 rfl iy_Event kc_River_31 is_Event ii_Event df_Event rfl (by omega) rfl rfl rfl ⟨Nat.le_of_ble_eq_true rfl, Nat.le_of_ble_eq_true rfl⟩ ?_
  refine ev_dup rfl hC d_River_init_85 ?_
  refine ev_callIN (j := n + 12) (As := []) hC d_River_init_86 (c_Event_init) mi_Event_init rfl rfl ml_River_37 im_Event_init ⟨Nat.le_of_ble_eq_true rfl, Nat.le_of_ble_eq_true rfl⟩ ⟨Nat.le_of_ble_eq_true rfl, Nat.le_of_ble_eq_true rfl⟩ rfl rfl (Nat.le_of_ble_eq_true rfl) ?_
  show Ev _ _ _ _ _ _ 12 78 (pre ++ [.inr (3, [.int 0, .int 5, .int 0, .int 0, .ref (ex_b G + (n + 1)), .ref (ex_b G + (n + 10))]), rfs (ex_c G 2) 8 (upN (fun i => ex_b G + (n + 2 + i)) 8), cO0, cO0, cO0, cO0, cO0, cO0, cO0, cO0, rfs (ex_c G 3) 8 (upN (fun i => ex_b G + (n + 11 + i)) 1), cE0, cE0])
  refine nw_aast (j := 10) (j2 := 12) (N := 8) (t := 3) (ci := 1) (m := 1) (f := upN (fun i => ex_b G + (n + 11 + i)) 1) (l2 := [.inr (3, [.int 0, .int 5, .int 0, .int 0, .ref (ex_b G + (n + 1)), .ref (ex_b G + (n + 10))]), rfs (ex_c G 2) 8 (upN (fun i => ex_b G + (n + 2 + i)) 8), cO0, cO0, cO0, cO0, cO0, cO0, cO0, cO0, rfs (ex_c G 3) 8 (upN (fun i => ex_b G + (n + 11 + i)) 2), cE0, cE0]) hn hC d_River_init_89 rfl rfl rfl rfl (vp_in_nI (by decide) (by decide)) (by decide) rfl ?_
  refine ev_iinc rfl (by decide) (nI_1 _) hC d_River_init_90 ?_
  refine ev_goto 71 hC d_River_init_93 rfl ?_
  refine ev_iload_n rfl hC d_River_init_71 ?_
  refine ev_bipush (v := nI 8) rfl hC d_River_init_72 ?_
  refine ev_icmp_ge 96 hC d_River_init_74 rfl (fun h => absurd h (by decide)) (fun _ => ?_)
  refine ev_aload_n rfl hC d_River_init_77 ?_
  refine nw_get (j := 0) (ci := 3) (k := 5) (N0 := "DayBehind$River") (T := fx_River) (NF := 6) hn hC d_River_init_78 rfl iy_River fl_River_33 rfl (by decide) rfl rfl ?_
  refine ev_iload_n rfl hC d_River_init_81 ?_
  refine nw_new (ci := 1) (N0 := "DayBehind$Event") (T := fx_Event) (NF := 3) (fs := [.int 0, .int 0, .int 0]) (m := 13) (cl2 := 13) (sl2 := 81) (l2 := [.inr (3, [.int 0, .int 5, .int 0, .int 0, .ref (ex_b G + (n + 1)), .ref (ex_b G + (n + 10))]), rfs (ex_c G 2) 8 (upN (fun i => ex_b G + (n + 2 + i)) 8), cO0, cO0, cO0, cO0, cO0, cO0, cO0, cO0, rfs (ex_c G 3) 8 (upN (fun i => ex_b G + (n + 11 + i)) 2), cE0, cE0, cE0]) hn tx_Event tk_Event hC d_River_init_82 rfl iy_Event kc_River_31 is_Event ii_Event df_Event rfl (by omega) rfl rfl rfl ⟨Nat.le_of_ble_eq_true rfl, Nat.le_of_ble_eq_true rfl⟩ ?_
  refine ev_dup rfl hC d_River_init_85 ?_
  refine ev_callIN (j := n + 13) (As := []) hC d_River_init_86 (c_Event_init) mi_Event_init rfl rfl ml_River_37 im_Event_init ⟨Nat.le_of_ble_eq_true rfl, Nat.le_of_ble_eq_true rfl⟩ ⟨Nat.le_of_ble_eq_true rfl, Nat.le_of_ble_eq_true rfl⟩ rfl rfl (Nat.le_of_ble_eq_true rfl) ?_
  show Ev _ _ _ _ _ _ 13 81 (pre ++ [.inr (3, [.int 0, .int 5, .int 0, .int 0, .ref (ex_b G + (n + 1)), .ref (ex_b G + (n + 10))]), rfs (ex_c G 2) 8 (upN (fun i => ex_b G + (n + 2 + i)) 8), cO0, cO0, cO0, cO0, cO0, cO0, cO0, cO0, rfs (ex_c G 3) 8 (upN (fun i => ex_b G + (n + 11 + i)) 2), cE0, cE0, cE0])
  refine nw_aast (j := 10) (j2 := 13) (N := 8) (t := 3) (ci := 1) (m := 2) (f := upN (fun i => ex_b G + (n + 11 + i)) 2) (l2 := [.inr (3, [.int 0, .int 5, .int 0, .int 0, .ref (ex_b G + (n + 1)), .ref (ex_b G + (n + 10))]), rfs (ex_c G 2) 8 (upN (fun i => ex_b G + (n + 2 + i)) 8), cO0, cO0, cO0, cO0, cO0, cO0, cO0, cO0, rfs (ex_c G 3) 8 (upN (fun i => ex_b G + (n + 11 + i)) 3), cE0, cE0, cE0]) hn hC d_River_init_89 rfl rfl rfl rfl (vp_in_nI (by decide) (by decide)) (by decide) rfl ?_
  refine ev_iinc rfl (by decide) (nI_1 _) hC d_River_init_90 ?_
  refine ev_goto 71 hC d_River_init_93 rfl ?_
  refine ev_iload_n rfl hC d_River_init_71 ?_
  refine ev_bipush (v := nI 8) rfl hC d_River_init_72 ?_
  refine ev_icmp_ge 96 hC d_River_init_74 rfl (fun h => absurd h (by decide)) (fun _ => ?_)
  refine ev_aload_n rfl hC d_River_init_77 ?_
  refine nw_get (j := 0) (ci := 3) (k := 5) (N0 := "DayBehind$River") (T := fx_River) (NF := 6) hn hC d_River_init_78 rfl iy_River fl_River_33 rfl (by decide) rfl rfl ?_
  refine ev_iload_n rfl hC d_River_init_81 ?_
  refine nw_new (ci := 1) (N0 := "DayBehind$Event") (T := fx_Event) (NF := 3) (fs := [.int 0, .int 0, .int 0]) (m := 14) (cl2 := 14) (sl2 := 84) (l2 := [.inr (3, [.int 0, .int 5, .int 0, .int 0, .ref (ex_b G + (n + 1)), .ref (ex_b G + (n + 10))]), rfs (ex_c G 2) 8 (upN (fun i => ex_b G + (n + 2 + i)) 8), cO0, cO0, cO0, cO0, cO0, cO0, cO0, cO0, rfs (ex_c G 3) 8 (upN (fun i => ex_b G + (n + 11 + i)) 3), cE0, cE0, cE0, cE0]) hn tx_Event tk_Event hC d_River_init_82 rfl iy_Event kc_River_31 is_Event ii_Event df_Event rfl (by omega) rfl rfl rfl ⟨Nat.le_of_ble_eq_true rfl, Nat.le_of_ble_eq_true rfl⟩ ?_
  refine ev_dup rfl hC d_River_init_85 ?_
  refine ev_callIN (j := n + 14) (As := []) hC d_River_init_86 (c_Event_init) mi_Event_init rfl rfl ml_River_37 im_Event_init ⟨Nat.le_of_ble_eq_true rfl, Nat.le_of_ble_eq_true rfl⟩ ⟨Nat.le_of_ble_eq_true rfl, Nat.le_of_ble_eq_true rfl⟩ rfl rfl (Nat.le_of_ble_eq_true rfl) ?_
  show Ev _ _ _ _ _ _ 14 84 (pre ++ [.inr (3, [.int 0, .int 5, .int 0, .int 0, .ref (ex_b G + (n + 1)), .ref (ex_b G + (n + 10))]), rfs (ex_c G 2) 8 (upN (fun i => ex_b G + (n + 2 + i)) 8), cO0, cO0, cO0, cO0, cO0, cO0, cO0, cO0, rfs (ex_c G 3) 8 (upN (fun i => ex_b G + (n + 11 + i)) 3), cE0, cE0, cE0, cE0])
  refine nw_aast (j := 10) (j2 := 14) (N := 8) (t := 3) (ci := 1) (m := 3) (f := upN (fun i => ex_b G + (n + 11 + i)) 3) (l2 := [.inr (3, [.int 0, .int 5, .int 0, .int 0, .ref (ex_b G + (n + 1)), .ref (ex_b G + (n + 10))]), rfs (ex_c G 2) 8 (upN (fun i => ex_b G + (n + 2 + i)) 8), cO0, cO0, cO0, cO0, cO0, cO0, cO0, cO0, rfs (ex_c G 3) 8 (upN (fun i => ex_b G + (n + 11 + i)) 4), cE0, cE0, cE0, cE0]) hn hC d_River_init_89 rfl rfl rfl rfl (vp_in_nI (by decide) (by decide)) (by decide) rfl ?_
  refine ev_iinc rfl (by decide) (nI_1 _) hC d_River_init_90 ?_
  refine ev_goto 71 hC d_River_init_93 rfl ?_
  refine ev_iload_n rfl hC d_River_init_71 ?_
  refine ev_bipush (v := nI 8) rfl hC d_River_init_72 ?_
  refine ev_icmp_ge 96 hC d_River_init_74 rfl (fun h => absurd h (by decide)) (fun _ => ?_)
  refine ev_aload_n rfl hC d_River_init_77 ?_
  refine nw_get (j := 0) (ci := 3) (k := 5) (N0 := "DayBehind$River") (T := fx_River) (NF := 6) hn hC d_River_init_78 rfl iy_River fl_River_33 rfl (by decide) rfl rfl ?_
  refine ev_iload_n rfl hC d_River_init_81 ?_
  refine nw_new (ci := 1) (N0 := "DayBehind$Event") (T := fx_Event) (NF := 3) (fs := [.int 0, .int 0, .int 0]) (m := 15) (cl2 := 15) (sl2 := 87) (l2 := [.inr (3, [.int 0, .int 5, .int 0, .int 0, .ref (ex_b G + (n + 1)), .ref (ex_b G + (n + 10))]), rfs (ex_c G 2) 8 (upN (fun i => ex_b G + (n + 2 + i)) 8), cO0, cO0, cO0, cO0, cO0, cO0, cO0, cO0, rfs (ex_c G 3) 8 (upN (fun i => ex_b G + (n + 11 + i)) 4), cE0, cE0, cE0, cE0, cE0]) hn tx_Event tk_Event hC d_River_init_82 rfl iy_Event kc_River_31 is_Event ii_Event df_Event rfl (by omega) rfl rfl rfl ⟨Nat.le_of_ble_eq_true rfl, Nat.le_of_ble_eq_true rfl⟩ ?_
  refine ev_dup rfl hC d_River_init_85 ?_
  refine ev_callIN (j := n + 15) (As := []) hC d_River_init_86 (c_Event_init) mi_Event_init rfl rfl ml_River_37 im_Event_init ⟨Nat.le_of_ble_eq_true rfl, Nat.le_of_ble_eq_true rfl⟩ ⟨Nat.le_of_ble_eq_true rfl, Nat.le_of_ble_eq_true rfl⟩ rfl rfl (Nat.le_of_ble_eq_true rfl) ?_
  show Ev _ _ _ _ _ _ 15 87 (pre ++ [.inr (3, [.int 0, .int 5, .int 0, .int 0, .ref (ex_b G + (n + 1)), .ref (ex_b G + (n + 10))]), rfs (ex_c G 2) 8 (upN (fun i => ex_b G + (n + 2 + i)) 8), cO0, cO0, cO0, cO0, cO0, cO0, cO0, cO0, rfs (ex_c G 3) 8 (upN (fun i => ex_b G + (n + 11 + i)) 4), cE0, cE0, cE0, cE0, cE0])
  refine nw_aast (j := 10) (j2 := 15) (N := 8) (t := 3) (ci := 1) (m := 4) (f := upN (fun i => ex_b G + (n + 11 + i)) 4) (l2 := [.inr (3, [.int 0, .int 5, .int 0, .int 0, .ref (ex_b G + (n + 1)), .ref (ex_b G + (n + 10))]), rfs (ex_c G 2) 8 (upN (fun i => ex_b G + (n + 2 + i)) 8), cO0, cO0, cO0, cO0, cO0, cO0, cO0, cO0, rfs (ex_c G 3) 8 (upN (fun i => ex_b G + (n + 11 + i)) 5), cE0, cE0, cE0, cE0, cE0]) hn hC d_River_init_89 rfl rfl rfl rfl (vp_in_nI (by decide) (by decide)) (by decide) rfl ?_
  refine ev_iinc rfl (by decide) (nI_1 _) hC d_River_init_90 ?_
  refine ev_goto 71 hC d_River_init_93 rfl ?_
  refine ev_iload_n rfl hC d_River_init_71 ?_
  refine ev_bipush (v := nI 8) rfl hC d_River_init_72 ?_
  refine ev_icmp_ge 96 hC d_River_init_74 rfl (fun h => absurd h (by decide)) (fun _ => ?_)
  refine ev_aload_n rfl hC d_River_init_77 ?_
  refine nw_get (j := 0) (ci := 3) (k := 5) (N0 := "DayBehind$River") (T := fx_River) (NF := 6) hn hC d_River_init_78 rfl iy_River fl_River_33 rfl (by decide) rfl rfl ?_
  refine ev_iload_n rfl hC d_River_init_81 ?_
  refine nw_new (ci := 1) (N0 := "DayBehind$Event") (T := fx_Event) (NF := 3) (fs := [.int 0, .int 0, .int 0]) (m := 16) (cl2 := 16) (sl2 := 90) (l2 := [.inr (3, [.int 0, .int 5, .int 0, .int 0, .ref (ex_b G + (n + 1)), .ref (ex_b G + (n + 10))]), rfs (ex_c G 2) 8 (upN (fun i => ex_b G + (n + 2 + i)) 8), cO0, cO0, cO0, cO0, cO0, cO0, cO0, cO0, rfs (ex_c G 3) 8 (upN (fun i => ex_b G + (n + 11 + i)) 5), cE0, cE0, cE0, cE0, cE0, cE0]) hn tx_Event tk_Event hC d_River_init_82 rfl iy_Event kc_River_31 is_Event ii_Event df_Event rfl (by omega) rfl rfl rfl ⟨Nat.le_of_ble_eq_true rfl, Nat.le_of_ble_eq_true rfl⟩ ?_
  refine ev_dup rfl hC d_River_init_85 ?_
  refine ev_callIN (j := n + 16) (As := []) hC d_River_init_86 (c_Event_init) mi_Event_init rfl rfl ml_River_37 im_Event_init ⟨Nat.le_of_ble_eq_true rfl, Nat.le_of_ble_eq_true rfl⟩ ⟨Nat.le_of_ble_eq_true rfl, Nat.le_of_ble_eq_true rfl⟩ rfl rfl (Nat.le_of_ble_eq_true rfl) ?_
  show Ev _ _ _ _ _ _ 16 90 (pre ++ [.inr (3, [.int 0, .int 5, .int 0, .int 0, .ref (ex_b G + (n + 1)), .ref (ex_b G + (n + 10))]), rfs (ex_c G 2) 8 (upN (fun i => ex_b G + (n + 2 + i)) 8), cO0, cO0, cO0, cO0, cO0, cO0, cO0, cO0, rfs (ex_c G 3) 8 (upN (fun i => ex_b G + (n + 11 + i)) 5), cE0, cE0, cE0, cE0, cE0, cE0])
  refine nw_aast (j := 10) (j2 := 16) (N := 8) (t := 3) (ci := 1) (m := 5) (f := upN (fun i => ex_b G + (n + 11 + i)) 5) (l2 := [.inr (3, [.int 0, .int 5, .int 0, .int 0, .ref (ex_b G + (n + 1)), .ref (ex_b G + (n + 10))]), rfs (ex_c G 2) 8 (upN (fun i => ex_b G + (n + 2 + i)) 8), cO0, cO0, cO0, cO0, cO0, cO0, cO0, cO0, rfs (ex_c G 3) 8 (upN (fun i => ex_b G + (n + 11 + i)) 6), cE0, cE0, cE0, cE0, cE0, cE0]) hn hC d_River_init_89 rfl rfl rfl rfl (vp_in_nI (by decide) (by decide)) (by decide) rfl ?_
  refine ev_iinc rfl (by decide) (nI_1 _) hC d_River_init_90 ?_
  refine ev_goto 71 hC d_River_init_93 rfl ?_
  refine ev_iload_n rfl hC d_River_init_71 ?_
  refine ev_bipush (v := nI 8) rfl hC d_River_init_72 ?_
  refine ev_icmp_ge 96 hC d_River_init_74 rfl (fun h => absurd h (by decide)) (fun _ => ?_)
  refine ev_aload_n rfl hC d_River_init_77 ?_
  refine nw_get (j := 0) (ci := 3) (k := 5) (N0 := "DayBehind$River") (T := fx_River) (NF := 6) hn hC d_River_init_78 rfl iy_River fl_River_33 rfl (by decide) rfl rfl ?_
  refine ev_iload_n rfl hC d_River_init_81 ?_
  refine nw_new (ci := 1) (N0 := "DayBehind$Event") (T := fx_Event) (NF := 3) (fs := [.int 0, .int 0, .int 0]) (m := 17) (cl2 := 17) (sl2 := 93) (l2 := [.inr (3, [.int 0, .int 5, .int 0, .int 0, .ref (ex_b G + (n + 1)), .ref (ex_b G + (n + 10))]), rfs (ex_c G 2) 8 (upN (fun i => ex_b G + (n + 2 + i)) 8), cO0, cO0, cO0, cO0, cO0, cO0, cO0, cO0, rfs (ex_c G 3) 8 (upN (fun i => ex_b G + (n + 11 + i)) 6), cE0, cE0, cE0, cE0, cE0, cE0, cE0]) hn tx_Event tk_Event hC d_River_init_82 rfl iy_Event kc_River_31 is_Event ii_Event df_Event rfl (by omega) rfl rfl rfl ⟨Nat.le_of_ble_eq_true rfl, Nat.le_of_ble_eq_true rfl⟩ ?_
  refine ev_dup rfl hC d_River_init_85 ?_
  refine ev_callIN (j := n + 17) (As := []) hC d_River_init_86 (c_Event_init) mi_Event_init rfl rfl ml_River_37 im_Event_init ⟨Nat.le_of_ble_eq_true rfl, Nat.le_of_ble_eq_true rfl⟩ ⟨Nat.le_of_ble_eq_true rfl, Nat.le_of_ble_eq_true rfl⟩ rfl rfl (Nat.le_of_ble_eq_true rfl) ?_
  show Ev _ _ _ _ _ _ 17 93 (pre ++ [.inr (3, [.int 0, .int 5, .int 0, .int 0, .ref (ex_b G + (n + 1)), .ref (ex_b G + (n + 10))]), rfs (ex_c G 2) 8 (upN (fun i => ex_b G + (n + 2 + i)) 8), cO0, cO0, cO0, cO0, cO0, cO0, cO0, cO0, rfs (ex_c G 3) 8 (upN (fun i => ex_b G + (n + 11 + i)) 6), cE0, cE0, cE0, cE0, cE0, cE0, cE0])
  refine nw_aast (j := 10) (j2 := 17) (N := 8) (t := 3) (ci := 1) (m := 6) (f := upN (fun i => ex_b G + (n + 11 + i)) 6) (l2 := [.inr (3, [.int 0, .int 5, .int 0, .int 0, .ref (ex_b G + (n + 1)), .ref (ex_b G + (n + 10))]), rfs (ex_c G 2) 8 (upN (fun i => ex_b G + (n + 2 + i)) 8), cO0, cO0, cO0, cO0, cO0, cO0, cO0, cO0, rfs (ex_c G 3) 8 (upN (fun i => ex_b G + (n + 11 + i)) 7), cE0, cE0, cE0, cE0, cE0, cE0, cE0]) hn hC d_River_init_89 rfl rfl rfl rfl (vp_in_nI (by decide) (by decide)) (by decide) rfl ?_
  refine ev_iinc rfl (by decide) (nI_1 _) hC d_River_init_90 ?_
  refine ev_goto 71 hC d_River_init_93 rfl ?_
  refine ev_iload_n rfl hC d_River_init_71 ?_
  refine ev_bipush (v := nI 8) rfl hC d_River_init_72 ?_
  refine ev_icmp_ge 96 hC d_River_init_74 rfl (fun h => absurd h (by decide)) (fun _ => ?_)
  refine ev_aload_n rfl hC d_River_init_77 ?_
  refine nw_get (j := 0) (ci := 3) (k := 5) (N0 := "DayBehind$River") (T := fx_River) (NF := 6) hn hC d_River_init_78 rfl iy_River fl_River_33 rfl (by decide) rfl rfl ?_
  refine ev_iload_n rfl hC d_River_init_81 ?_
  refine nw_new (ci := 1) (N0 := "DayBehind$Event") (T := fx_Event) (NF := 3) (fs := [.int 0, .int 0, .int 0]) (m := 18) (cl2 := 18) (sl2 := 96) (l2 := [.inr (3, [.int 0, .int 5, .int 0, .int 0, .ref (ex_b G + (n + 1)), .ref (ex_b G + (n + 10))]), rfs (ex_c G 2) 8 (upN (fun i => ex_b G + (n + 2 + i)) 8), cO0, cO0, cO0, cO0, cO0, cO0, cO0, cO0, rfs (ex_c G 3) 8 (upN (fun i => ex_b G + (n + 11 + i)) 7), cE0, cE0, cE0, cE0, cE0, cE0, cE0, cE0]) hn tx_Event tk_Event hC d_River_init_82 rfl iy_Event kc_River_31 is_Event ii_Event df_Event rfl (by omega) rfl rfl rfl ⟨Nat.le_of_ble_eq_true rfl, Nat.le_of_ble_eq_true rfl⟩ ?_
  refine ev_dup rfl hC d_River_init_85 ?_
  refine ev_callIN (j := n + 18) (As := []) hC d_River_init_86 (c_Event_init) mi_Event_init rfl rfl ml_River_37 im_Event_init ⟨Nat.le_of_ble_eq_true rfl, Nat.le_of_ble_eq_true rfl⟩ ⟨Nat.le_of_ble_eq_true rfl, Nat.le_of_ble_eq_true rfl⟩ rfl rfl (Nat.le_of_ble_eq_true rfl) ?_
  show Ev _ _ _ _ _ _ 18 96 (pre ++ [.inr (3, [.int 0, .int 5, .int 0, .int 0, .ref (ex_b G + (n + 1)), .ref (ex_b G + (n + 10))]), rfs (ex_c G 2) 8 (upN (fun i => ex_b G + (n + 2 + i)) 8), cO0, cO0, cO0, cO0, cO0, cO0, cO0, cO0, rfs (ex_c G 3) 8 (upN (fun i => ex_b G + (n + 11 + i)) 7), cE0, cE0, cE0, cE0, cE0, cE0, cE0, cE0])
  refine nw_aast (j := 10) (j2 := 18) (N := 8) (t := 3) (ci := 1) (m := 7) (f := upN (fun i => ex_b G + (n + 11 + i)) 7) (l2 := [.inr (3, [.int 0, .int 5, .int 0, .int 0, .ref (ex_b G + (n + 1)), .ref (ex_b G + (n + 10))]), rfs (ex_c G 2) 8 (upN (fun i => ex_b G + (n + 2 + i)) 8), cO0, cO0, cO0, cO0, cO0, cO0, cO0, cO0, rfs (ex_c G 3) 8 (upN (fun i => ex_b G + (n + 11 + i)) 8), cE0, cE0, cE0, cE0, cE0, cE0, cE0, cE0]) hn hC d_River_init_89 rfl rfl rfl rfl (vp_in_nI (by decide) (by decide)) (by decide) rfl ?_
  refine ev_iinc rfl (by decide) (nI_1 _) hC d_River_init_90 ?_
  refine ev_goto 71 hC d_River_init_93 rfl ?_
  refine ev_iload_n rfl hC d_River_init_71 ?_
  refine ev_bipush (v := nI 8) rfl hC d_River_init_72 ?_
  refine ev_icmp_ge 96 hC d_River_init_74 rfl (fun _ => ?_) (fun h => absurd (by decide) h)
  exact ev_vret hC hR d_River_init_96 rfl rfl rfl

set_option maxHeartbeats 4000000 in
set_option maxRecDepth 20000 in
theorem c_Text_init {G : ex_G} {pre : List va_E} {n : Nat} (hn : pre.length = n) (hz : n + 2 ≤ 83) : Con G Y_Text_init 1 20 1 120 [.ref (ex_b G + (n + 0))] (pre ++ [.inr (5, [.null, .int 0, .int 0, .int 0, .int 0, .int 0, .int 0])]) none (pre ++ [.inr (5, [.ref (ex_b G + (n + 1)), .int 0, .int 0, .int 0, .int 0, .int 0, .int 0]), .inl (ex_c G 0, 120, .inl (fun _ => 0))]) := by
  refine Con.ofF (plainFor_of_name (by decide +kernel)) (Nat.le_of_ble_eq_true rfl) (fun C hC hR => ?_)
  show Ev G C Y_Text_init 0 [some (.ref (ex_b G + (n + 0)))] [] 0 0 (pre ++ [.inr (5, [.null, .int 0, .int 0, .int 0, .int 0, .int 0, .int 0])])
  refine ev_aload_n rfl hC d_Text_init_0 ?_
  refine ev_objInit hC d_Text_init_1 ml_Text_3 im_Obj_init co_Obj_init ⟨Nat.le_of_ble_eq_true rfl, Nat.le_of_ble_eq_true rfl⟩ ?_
  refine ev_aload_n rfl hC d_Text_init_4 ?_
  refine ev_bipush (v := 120) rfl hC d_Text_init_5 ?_
  refine nw_newI (N := 120) (m := 1) (cl2 := 1) (sl2 := 120) (l2 := [.inr (5, [.null, .int 0, .int 0, .int 0, .int 0, .int 0, .int 0]), .inl (ex_c G 0, 120, .inl (fun _ => 0))]) hn hC d_Text_init_7 (by decide) (by decide) (by decide) rfl (by omega) rfl rfl rfl ⟨Nat.le_of_ble_eq_true rfl, Nat.le_of_ble_eq_true rfl⟩ ?_
  refine nw_putF (j := 0) (ci := 5) (k := 0) (N0 := "DayBehind$Text") (T := fx_Text) (NF := 7) (l2 := [.inr (5, [.ref (ex_b G + (n + 1)), .int 0, .int 0, .int 0, .int 0, .int 0, .int 0]), .inl (ex_c G 0, 120, .inl (fun _ => 0))]) hn tx_Text tk_Text nx_Text hC hR rfl rfl d_Text_init_9 rfl iy_Text fl_Text_9 rfl (by decide) rfl rfl rfl rfl rfl (Nat.le_of_ble_eq_true rfl) rfl ?_
  refine ev_aload_n rfl hC d_Text_init_12 ?_
  refine ev_iconst (v := 0) rfl hC d_Text_init_13 ?_
  refine nw_put (j := 0) (ci := 5) (k := 1) (N0 := "DayBehind$Text") (T := fx_Text) (NF := 7) (l2 := [.inr (5, [.ref (ex_b G + (n + 1)), .int 0, .int 0, .int 0, .int 0, .int 0, .int 0]), .inl (ex_c G 0, 120, .inl (fun _ => 0))]) hn tx_Text tk_Text nx_Text hC d_Text_init_14 rfl iy_Text fl_Text_15 rfl (by decide) rfl rfl rfl rfl rfl (Nat.le_of_ble_eq_true rfl) rfl ?_
  exact ev_vret hC hR d_Text_init_17 rfl rfl rfl

set_option maxHeartbeats 4000000 in
set_option maxRecDepth 20000 in
theorem c_Sheet_init {G : ex_G} {pre : List va_E} {n : Nat} (hn : pre.length = n) (hz : n + 2 ≤ 83) : Con G Y_Sheet_init 1 20 1 40 [.ref (ex_b G + (n + 0))] (pre ++ [.inr (4, [.int 0, .int 0, .null])]) none (pre ++ [.inr (4, [.int 0, .int 0, .ref (ex_b G + (n + 1))]), .inl (ex_c G 1, 40, .inr (.inl (fun _ => 0)))]) := by
  refine Con.ofF (plainFor_of_name (by decide +kernel)) (Nat.le_of_ble_eq_true rfl) (fun C hC hR => ?_)
  show Ev G C Y_Sheet_init 0 [some (.ref (ex_b G + (n + 0)))] [] 0 0 (pre ++ [.inr (4, [.int 0, .int 0, .null])])
  refine ev_aload_n rfl hC d_Sheet_init_0 ?_
  refine ev_objInit hC d_Sheet_init_1 ml_Sheet_3 im_Obj_init co_Obj_init ⟨Nat.le_of_ble_eq_true rfl, Nat.le_of_ble_eq_true rfl⟩ ?_
  refine ev_aload_n rfl hC d_Sheet_init_4 ?_
  refine ev_iconst (v := 0) rfl hC d_Sheet_init_5 ?_
  refine nw_put (j := 0) (ci := 4) (k := 0) (N0 := "DayBehind$Sheet") (T := fx_Sheet) (NF := 3) (l2 := [.inr (4, [.int 0, .int 0, .null])]) hn tx_Sheet tk_Sheet nx_Sheet hC d_Sheet_init_6 rfl iy_Sheet fl_Sheet_9 rfl (by decide) rfl rfl rfl rfl rfl (Nat.le_of_ble_eq_true rfl) rfl ?_
  refine ev_aload_n rfl hC d_Sheet_init_9 ?_
  refine ev_iconst (v := 0) rfl hC d_Sheet_init_10 ?_
  refine nw_put (j := 0) (ci := 4) (k := 1) (N0 := "DayBehind$Sheet") (T := fx_Sheet) (NF := 3) (l2 := [.inr (4, [.int 0, .int 0, .null])]) hn tx_Sheet tk_Sheet nx_Sheet hC d_Sheet_init_11 rfl iy_Sheet fl_Sheet_15 rfl (by decide) rfl rfl rfl rfl rfl (Nat.le_of_ble_eq_true rfl) rfl ?_
  refine ev_aload_n rfl hC d_Sheet_init_14 ?_
  refine ev_bipush (v := 40) rfl hC d_Sheet_init_15 ?_
  refine nw_newL (N := 40) (m := 1) (cl2 := 1) (sl2 := 40) (l2 := [.inr (4, [.int 0, .int 0, .null]), .inl (ex_c G 1, 40, .inr (.inl (fun _ => 0)))]) hn hC d_Sheet_init_17 (by decide) (by decide) (by decide) rfl (by omega) rfl rfl rfl ⟨Nat.le_of_ble_eq_true rfl, Nat.le_of_ble_eq_true rfl⟩ ?_
  refine nw_putF (j := 0) (ci := 4) (k := 2) (N0 := "DayBehind$Sheet") (T := fx_Sheet) (NF := 3) (l2 := [.inr (4, [.int 0, .int 0, .ref (ex_b G + (n + 1))]), .inl (ex_c G 1, 40, .inr (.inl (fun _ => 0)))]) hn tx_Sheet tk_Sheet nx_Sheet hC hR rfl rfl d_Sheet_init_19 rfl iy_Sheet fl_Sheet_18 rfl (by decide) rfl rfl rfl rfl rfl (Nat.le_of_ble_eq_true rfl) rfl ?_
  exact ev_vret hC hR d_Sheet_init_22 rfl rfl rfl

