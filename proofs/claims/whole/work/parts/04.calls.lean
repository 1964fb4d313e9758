/-- a method that can be called: its words -/
def ex_mi (Y : ex_Y) (n : Nat) : Prop := Cond.code Y.1 Y.2.1 Y.2.2.1 Y.2.2.2 ∈ ex_tb ∧ Cond.initialized Y.1.cls ∈ ex_tb ∧ Y.1.cls ≠ "java/lang/invoke/MethodHandle" ∧ Y.1.cls ≠ "java/lang/invoke/VarHandle" ∧ (parseMethodDescriptor Y.1.desc).map (fun d => d.parameters.length) = some n
theorem ex_blind {G : ex_G} {av : List Value} {es : List va_E} : FrameBlind (va_Pc av (fun U => ex_K G U ∧ ex_wd G es U.heap)) := fun a U g mk q => ⟨q.1, ex_K.same (u := U) (U := U.calling g mk a) rfl rfl q.2.1, q.2.2⟩
theorem ex_goodIn {Z : ex_Y} {n : Nat} (hm : ex_mi Z n) {ws : List Cond} (hw : ∀ w ∈ ws, w ∈ ex_tb) : GoodIn ex_tb (ws ++ (.code Z.1 Z.2.1 Z.2.2.1 Z.2.2.2 :: ex_tb)) := ex_tb_good fun w h => by
  rcases List.mem_append.mp h with h | h
  · exact hw w h
  · rcases List.mem_cons.mp h with h | h
    · rw [h]; exact hm.1
    · exact h
section EvCalls
variable {G : ex_G} {C : ex_C} {Y Z : ex_Y} {R0 : Room} {pc cl sl : Nat} {L : List (Option Value)} {S : List Value} {es es1 : List va_E}
/-- behind a call -/
theorem ex_after {p : Program} {e : Env} {R : Room} {s : State} {m : MethodId} {args : Array Value} {below : List Frame} {meth : Method} {c : Code} {Q : State → Prop} {H : Heap} {locs : List Loc} {ls : Array Slot} {mc ms : Nat} {st0 rest : List Value} {r : Option Value}
    (hr : va_Run p (ex_l G) e R s m args below meth c H locs cl sl mc ms (F0 m pc ls st0) rest (ex_Q G r es1 args) (ex_A G)) (hl : lv_has ls Y.2.2.1 (ex_ll 0 L)) (hS : va_S (ex_A G) s.heap H locs)
    (k : Ev G (p, e, R, s, m, args, below, meth, c, Q) Y (pc + 3) L (r.toList ++ rest) (cl + mc) (sl + ms) es1) : W p (ex_l G) e R s m args below meth c H locs cl sl Q (F0 m pc ls st0) := by
  intro T hT X
  obtain ⟨v, st₀, t, T', Lc, h0, X', hL, e1, e2, ⟨hv, hw, hz, hk⟩, st⟩ := hr T hT X
  cases hv
  rw [h0] at hz hk
  obtain ⟨t2, a1, b1⟩ := k T'.heap (locs ++ Lc) ls hl (by rw [e1]; exact hw)
    ⟨Nat.le_trans hS.1 (by rw [e1]; exact hz), fun q h1 h2 => by rw [e1, hk q (Nat.lt_of_lt_of_le h1 hS.1) h2]; exact hS.2.1 q h1 h2, fun q hq => by
      rcases List.mem_append.mp hq with h | h
      · exact hS.2.2 q h
      · exact hL q h⟩ T' rfl X'
  exact ⟨t2, st t2 a1, b1⟩
theorem ex_pre {p : Program} {e : Env} {R : Room} {s : State} {m : MethodId} {args : Array Value} {below : List Frame} {meth : Method} {c : Code} {Q : State → Prop} {H : Heap} {locs : List Loc} (hC : Cx G (p, e, R, s, m, args, below, meth, c, Q) Y R0) (hw : ex_wd G es H) (hS : va_S (ex_A G) s.heap H locs) (av : List Value) :
    ∀ U : State, U.heap = H → s.WarmedH U.vm → va_Pc av (fun U => ex_K G U ∧ ex_wd G es U.heap) av.toArray U := fun U hU hW => ⟨rfl, ex_K.warm hW (fun q h1 h2 => by rw [hU]; exact hS.2.1 q h1 h2) (by rw [hU]; exact hS.1) hC.2.2.2.2.2.2, by rw [hU]; exact hw⟩
theorem ex_argsfree {r : Option Value} {a b : Array Value} : ex_Q G r es1 a = ex_Q G r es1 b := rfl
/-- invokevirtual: the receiver is an object of the world -/
theorem ev_callV {F X mc ms idx n j ci NF : Nat} {T : u_T} {fs As rest : List Value} {r : Option Value} (hC : Cx G C Y R0) (hd : decode Y.2.1 pc = .ok (.invokevirtual idx, 3)) (hcon : Con G Z F X mc ms (.ref (ex_b G + j) :: As) es r es1) (hm : ex_mi Z n) (hlk : Cond.methodLink Y.1.cls idx Z.1 ∈ ex_tb) (hin : Cond.instanceMethod Z.1 ∈ ex_tb) (hse : Cond.selects Z.1.cls Z.1 Z.1 ∈ ex_tb)
    (hroom : F + 1 ≤ R0.frames ∧ 8 + (Z.2.2.1 + 11) + X ≤ R0.locals) (hroom2 : cl + mc ≤ R0.cells ∧ sl + ms ≤ R0.slots) (hcl : ex_cl[ci]? = some (Z.1.cls, T, NF)) (he : es[j]? = some (.inr (ci, fs))) (hst : S = As.reverse ++ .ref (ex_b G + j) :: rest) (hn : As.length = n) (hcat : (rest.map fun v => v.category).sum ≤ 8)
    (k : Ev G C Y (pc + 3) L (r.toList ++ rest) (cl + mc) (sl + ms) es1) : Ev G C Y pc L S cl sl es := by
  obtain ⟨p, e, R, s, m, args, below, meth, c, Q⟩ := C
  intro H locs ls hl hw hS
  have hRR : R = R0 := hC.2.2.2.2.2.1
  refine ex_after (Y := Y) (L := L) (r := r) (es1 := es1) (rest := rest) (mc := mc) (ms := ms) ?_ hl hS k
  exact va_runV (Ts := ex_tb) (own := Y.1.cls) (C := Z.1.cls) (nL := Y.2.2.1) (As := As) (rest := rest) (b := ex_b G + j) (bytes := Z.2.1) (maxL := Z.2.2.1) (ret := Z.2.2.2) (n := n) (index := idx) ⟨hC.1, hC.2.1, hC.2.2.1, hC.2.2.2.1, hC.2.2.2.2.1⟩ hcon
    (cwV n hC.2.2.2.2.1 (ex_goodIn (ws := [.methodLink Y.1.cls idx Z.1, .instanceMethod Z.1, .selects Z.1.cls Z.1 Z.1, .initialized Z.1.cls]) hm (by intro w h; simp only [List.mem_cons, List.not_mem_nil, or_false] at h; rcases h with h | h | h | h <;> subst h; exact hlk; exact hin; exact hse; exact hm.2.1)) rfl rfl rfl ⟨rfl, hm.2.2⟩ (by rw [hRR]; exact hroom))
    ⟨ex_blind, va_recv hC.2.2.2.2.2.2.1 hw.1 hcl (ex_wl_get he), ex_pre hC hw hS _⟩ rfl hn hl.1 hst (by show 2 * 0 + _ ≤ 8; omega) hd (by rw [hRR]; exact hroom2)
/-- invokevirtual on a String constant -/
theorem ev_callStr {F X idx n i : Nat} {As rest : List Value} {r : Option Value} (hC : Cx G C Y R0) (hd : decode Y.2.1 pc = .ok (.invokevirtual idx, 3)) (hcon : Con G Z F X 0 0 (.ref (ex_sK G i) :: As) es r es1) (hm : ex_mi Z n) (hlk : Cond.methodLink Y.1.cls idx Z.1 ∈ ex_tb) (hin : Cond.instanceMethod Z.1 ∈ ex_tb) (hse : Cond.selects Z.1.cls Z.1 Z.1 ∈ ex_tb) (hcs : Z.1.cls = "java/lang/String") (hi : i < 14)
    (hroom : F + 1 ≤ R0.frames ∧ 8 + (Z.2.2.1 + 11) + X ≤ R0.locals) (hroom2 : cl ≤ R0.cells ∧ sl ≤ R0.slots) (hst : S = As.reverse ++ .ref (ex_sK G i) :: rest) (hn : As.length = n) (hcat : (rest.map fun v => v.category).sum ≤ 8)
    (k : Ev G C Y (pc + 3) L (r.toList ++ rest) cl sl es1) : Ev G C Y pc L S cl sl es := by
  obtain ⟨p, e, R, s, m, args, below, meth, c, Q⟩ := C
  intro H locs ls hl hw hS
  have hRR : R = R0 := hC.2.2.2.2.2.1
  refine ex_after (Y := Y) (L := L) (r := r) (es1 := es1) (rest := rest) (mc := 0) (ms := 0) ?_ hl hS k
  refine va_runV (Ts := ex_tb) (own := Y.1.cls) (C := Z.1.cls) (nL := Y.2.2.1) (As := As) (rest := rest) (b := ex_sK G i) (bytes := Z.2.1) (maxL := Z.2.2.1) (ret := Z.2.2.2) (n := n) (index := idx) ⟨hC.1, hC.2.1, hC.2.2.1, hC.2.2.2.1, hC.2.2.2.2.1⟩ hcon
    (cwV n hC.2.2.2.2.1 (ex_goodIn (ws := [.methodLink Y.1.cls idx Z.1, .instanceMethod Z.1, .selects Z.1.cls Z.1 Z.1, .initialized Z.1.cls]) hm (by intro w h; simp only [List.mem_cons, List.not_mem_nil, or_false] at h; rcases h with h | h | h | h <;> subst h; exact hlk; exact hin; exact hse; exact hm.2.1)) rfl rfl rfl ⟨rfl, hm.2.2⟩ (by rw [hRR]; exact hroom))
    ⟨ex_blind, ?_, ex_pre hC hw hS _⟩ rfl hn hl.1 hst (by show 2 * 0 + _ ≤ 8; omega) hd (by rw [hRR]; exact hroom2)
  obtain ⟨cell, h1, h2, h3, -⟩ := (hC.2.2.2.2.2.2.2.1.2.2.2.2 i hi).1.kept hS.2.1
  exact ⟨cell, h1, h2, by rw [hcs]; exact h3⟩
/-- invokestatic -/
theorem ev_callS {F X idx n : Nat} {As rest : List Value} {r : Option Value} (hC : Cx G C Y R0) (hd : decode Y.2.1 pc = .ok (.invokestatic idx, 3)) (hcon : Con G Z F X 0 0 As es r es1) (hm : ex_mi Z n) (hlk : Cond.methodLink Y.1.cls idx Z.1 ∈ ex_tb) (hst0 : Cond.static Z.1 ∈ ex_tb)
    (hroom : F + 1 ≤ R0.frames ∧ 8 + (Z.2.2.1 + 11) + X ≤ R0.locals) (hroom2 : cl ≤ R0.cells ∧ sl ≤ R0.slots) (hst : S = As.reverse ++ rest) (hn : As.length = n) (hcat : (rest.map fun v => v.category).sum ≤ 8)
    (k : Ev G C Y (pc + 3) L (r.toList ++ rest) cl sl es1) : Ev G C Y pc L S cl sl es := by
  obtain ⟨p, e, R, s, m, args, below, meth, c, Q⟩ := C
  intro H locs ls hl hw hS
  have hRR : R = R0 := hC.2.2.2.2.2.1
  refine ex_after (Y := Y) (L := L) (r := r) (es1 := es1) (rest := rest) (mc := 0) (ms := 0) ?_ hl hS k
  exact va_runS (Ts := ex_tb) (own := Y.1.cls) (nL := Y.2.2.1) (As := As) (rest := rest) (bytes := Z.2.1) (maxL := Z.2.2.1) (ret := Z.2.2.2) (n := n) (index := idx) ⟨hC.1, hC.2.1, hC.2.2.1, hC.2.2.2.1, hC.2.2.2.2.1⟩ hcon
    (va_cwS n hC.2.2.2.2.1 (ex_goodIn (ws := [.methodLink Y.1.cls idx Z.1, .static Z.1, .initialized Z.1.cls]) hm (by intro w h; simp only [List.mem_cons, List.not_mem_nil, or_false] at h; rcases h with h | h | h <;> subst h; exact hlk; exact hst0; exact hm.2.1)) rfl rfl rfl hm.2.2 (by rw [hRR]; exact hroom))
    ⟨ex_blind, ex_pre hC hw hS _⟩ rfl hn hl.1 hst (by show 2 * 0 + _ ≤ 8; omega) hd (by rw [hRR]; exact hroom2)
/-- invokespecial of a constructor -/
theorem ev_callI {F X mc ms idx n j : Nat} {As rest : List Value} (hC : Cx G C Y R0) (hd : decode Y.2.1 pc = .ok (.invokespecial idx, 3)) (hcon : Con G Z F X mc ms (.ref (ex_b G + j) :: As) es none es1) (hm : ex_mi Z n) (hret : Z.2.2.2 = none) (hnm : Z.1.name = "<init>") (hlk : Cond.methodLink Y.1.cls idx Z.1 ∈ ex_tb) (hin : Cond.instanceMethod Z.1 ∈ ex_tb)
    (hroom : F + 1 ≤ R0.frames ∧ 8 + (Z.2.2.1 + 11) + X ≤ R0.locals) (hroom2 : cl + mc ≤ R0.cells ∧ sl + ms ≤ R0.slots) (hst : S = As.reverse ++ .ref (ex_b G + j) :: rest) (hn : As.length = n) (hcat : (rest.map fun v => v.category).sum ≤ 8)
    (k : Ev G C Y (pc + 3) L rest (cl + mc) (sl + ms) es1) : Ev G C Y pc L S cl sl es := by
  obtain ⟨p, e, R, s, m, args, below, meth, c, Q⟩ := C
  intro H locs ls hl hw hS
  have hRR : R = R0 := hC.2.2.2.2.2.1
  refine ex_after (Y := Y) (L := L) (r := none) (es1 := es1) (rest := rest) (mc := mc) (ms := ms) ?_ hl hS k
  obtain ⟨z1, z2, z3, z4⟩ := Z
  cases hret
  exact va_runI (Ts := ex_tb) (own := Y.1.cls) (nL := Y.2.2.1) (As := As) (rest := rest) (b := ex_b G + j) (bytes := z2) (maxL := z3) (n := n) (index := idx) ⟨hC.1, hC.2.1, hC.2.2.1, hC.2.2.2.1, hC.2.2.2.2.1⟩ hcon
    (cwI n hC.2.2.2.2.1 (ex_goodIn (ws := []) hm (by intro w h; cases h)) rfl rfl rfl (hC.2.2.2.2.1 _ hm.2.1) (hC.2.2.2.2.1 _ hlk) (hC.2.2.2.2.1 _ hin) hnm hm.2.2 (by rw [hRR]; exact hroom))
    ⟨ex_blind, ex_pre hC hw hS _⟩ rfl hn hl.1 hst (by show 2 * 0 + _ ≤ 8; omega) hd (by rw [hRR]; exact hroom2)
theorem ev_callIN {F X mc ms idx n j : Nat} {As rest : List Value} (hC : Cx G C Y R0) (hd : decode Y.2.1 pc = .ok (.invokespecial idx, 3)) (hcon : Con G Z F X mc ms (.ref (ex_b G + j) :: As) es none es1) (hm : ex_mi Z n) (hret : Z.2.2.2 = none) (hnm : Z.1.name = "<init>") (hlk : Cond.methodLinkNest Y.1.cls idx Z.1 "DayBehind" ∈ lw_tbl) (hin : Cond.instanceMethod Z.1 ∈ ex_tb)
    (hroom : F + 1 ≤ R0.frames ∧ 8 + (Z.2.2.1 + 11) + X ≤ R0.locals) (hroom2 : cl + mc ≤ R0.cells ∧ sl + ms ≤ R0.slots) (hst : S = As.reverse ++ .ref (ex_b G + j) :: rest) (hn : As.length = n) (hcat : (rest.map fun v => v.category).sum ≤ 8)
    (k : Ev G C Y (pc + 3) L rest (cl + mc) (sl + ms) es1) : Ev G C Y pc L S cl sl es := by
  obtain ⟨p, e, R, s, m, args, below, meth, c, Q⟩ := C
  intro H locs ls hl hw hS
  have hRR : R = R0 := hC.2.2.2.2.2.1
  refine ex_after (Y := Y) (L := L) (r := none) (es1 := es1) (rest := rest) (mc := mc) (ms := ms) ?_ hl hS k
  obtain ⟨z1, z2, z3, z4⟩ := Z
  cases hret
  exact va_runIN (Ts := ex_tb) (own := Y.1.cls) (host := "DayBehind") (nL := Y.2.2.1) (As := As) (rest := rest) (b := ex_b G + j) (bytes := z2) (maxL := z3) (n := n) (index := idx) ⟨hC.1, hC.2.1, hC.2.2.1, hC.2.2.2.1, hC.2.2.2.2.1⟩ hcon
    ⟨va_cnB n hC.2.2.2.2.1 (ex_goodIn (ws := []) hm (by intro w h; cases h)) rfl rfl rfl (hC.2.2.2.2.2.2.2.2.2.1 _ hlk rfl) (hC.2.2.2.2.1 _ hm.2.1) hm.2.2 (by rw [hRR]; exact hroom), hnm, hC.2.2.2.2.1 _ hin⟩
    ⟨ex_blind, ex_pre hC hw hS _⟩ rfl hn hl.1 hst (by show 2 * 0 + _ ≤ 8; omega) hd (by rw [hRR]; exact hroom2)
theorem ev_objInit {idx j : Nat} {rest : List Value} (hC : Cx G C Y R0) (hd : decode Y.2.1 pc = .ok (.invokespecial idx, 3)) (hlk : Cond.methodLink Y.1.cls idx Lib.objectInit ∈ ex_tb) (hin : Cond.instanceMethod Lib.objectInit ∈ ex_tb) (hco : Cond.code Lib.objectInit ⟨#[0xb1]⟩ 1 none ∈ ex_tb) (hroom : 1 ≤ R0.frames ∧ (rest.map fun v => v.category).sum + 12 ≤ R0.locals)
    (k : Ev G C Y (pc + 3) L rest cl sl es) : Ev G C Y pc L (.ref j :: rest) cl sl es := by
  obtain ⟨p, e, R, s, m, args, below, meth, c, Q⟩ := C
  have hRR : R = R0 := hC.2.2.2.2.2.1
  exact fun H locs ls hl hw hS => W.objInit hC.1 hC.2.1 hC.2.2.2.1 (hC.2.2.2.2.1 _ hlk) (hC.2.2.2.2.1 _ hin) (hC.2.2.2.2.1 _ hco) rfl (hl.1.trans hC.2.2.1.symm) rfl hd (by rw [hRR]; exact hroom.1) (by rw [hRR]; show 2 * 0 + _ + 12 ≤ _; have := hroom.2; omega) (k H locs ls hl hw hS)
end EvCalls
section EvNew
variable {G : ex_G} {C : ex_C} {Y : ex_Y} {R0 : Room} {pc cl sl : Nat} {L : List (Option Value)} {S : List Value} {es : List va_E}
theorem ex_wd_push {x : va_E} {H H1 : Heap} (hw : ex_wd G es H) (hz : es.length < 83) (z1 : H1.size = H.size + 1) (o1 : ∀ q : Nat, q < H.size → H1[q]? = H[q]?) (hx : va_at (ex_D G) ex_cl (ex_b G + es.length, x) H1) : ex_wd G (es ++ [x]) H1 := by
  have e : ex_wl (ex_b G) (es ++ [x]) = ex_wl (ex_b G) es ++ [(ex_b G + es.length, x)] := by simp [ex_wl, List.mapIdx_append]
  refine ⟨?_, fun _ => by rw [z1, hw.2 hz]; simp; omega⟩
  rw [e]
  refine va_P.app (hw.1.kept fun k q hq => o1 q.1 ((hw.1 k q hq).lt)) (fun k q hq => ?_)
  have hk : k < 1 := (List.getElem?_eq_some_iff.mp hq).1
  rw [show k = 0 by omega] at hq
  cases hq
  exact hx
theorem ev_new {idx ci NF : Nat} {N0 : String} {T : u_T} {fs : List Value} (ty0 : Nat → FieldType) (hty : ∀ k, k < NF → parseFieldDescriptor (T k).2.2.1 = some (ty0 k)) (hC : Cx G C Y R0) (hd : decode Y.2.1 pc = .ok (.new idx, 3)) (hcl : ex_cl[ci]? = some (N0, T, NF)) (hin : ∀ w ∈ u_ws N0 T NF, w ∈ ex_tb) (hck : Cond.classLink Y.1.cls idx N0 ∈ ex_tb) (hins : Cond.instantiable N0 NF ∈ ex_tb) (hini : Cond.initialized N0 ∈ ex_tb) (hfs : ∀ j, j < NF → defaultValue (ty0 j) = vp_V fs j) (hz : es.length < 83) (hroom : cl + 1 ≤ R0.cells ∧ sl + NF ≤ R0.slots)
    (k : Ev G C Y (pc + 3) L (.ref (ex_b G + es.length) :: S) (cl + 1) (sl + NF) (es ++ [.inr (ci, fs)])) : Ev G C Y pc L S cl sl es := by
  obtain ⟨p, e, R, s, m, args, below, meth, c, Q⟩ := C
  intro H locs ls hl hw hS
  have hRR : R = R0 := hC.2.2.2.2.2.1
  have hKn := hC.2.2.2.2.2.2.1.1 ci _ hcl
  refine W.newcK hC.1 hC.2.1 hC.2.2.2.1 (hC.2.2.2.2.1 _ hck) (hC.2.2.2.2.1 _ hins) (hC.2.2.2.2.1 _ hini) rfl hd (by rw [hRR]; exact hroom.1) (by rw [hRR]; exact hroom.2) hKn.2.1 (hw.2 hz) fun H1 kC hkC e1 z1 o1 => ?_
  rw [← hw.2 hz] at z1 o1
  exact k H1 locs ls hl (ex_wd_push hw hz z1 o1 ⟨_, hcl, (u_born ty0 hC.2.2.2.2.1 hin hKn hkC e1 hty).to hfs⟩) ⟨Nat.le_trans hS.1 (by omega), fun x h1 h2 => (o1 x (Nat.lt_of_lt_of_le h1 hS.1)).trans (hS.2.1 x h1 h2), hS.2.2⟩
theorem ev_newI {n : Int32} {N : Nat} (hC : Cx G C Y R0) (hd : decode Y.2.1 pc = .ok (.newarray .int, 2)) (har : Cond.arrayClass .int ∈ ex_tb) (hn : ¬ n < 0) (hN : n.toNatClampNeg = N) (hb : N * 4 ≤ 536870912) (hz : es.length < 83) (hroom : cl + 1 ≤ R0.cells ∧ sl + N ≤ R0.slots)
    (k : Ev G C Y (pc + 2) L (.ref (ex_b G + es.length) :: S) (cl + 1) (sl + N) (es ++ [.inl (ex_c G 0, N, .inl (fun _ => 0))])) : Ev G C Y pc L (.int n :: S) cl sl es := by
  obtain ⟨p, e, R, s, m, args, below, meth, c, Q⟩ := C
  intro H locs ls hl hw hS
  have hRR : R = R0 := hC.2.2.2.2.2.1
  refine va_newaK (atype := .int) hC.1 hC.2.1 (hC.2.2.2.2.1 _ har) rfl hd rfl hn hN hb (by rw [hRR]; exact hroom.1) (by rw [hRR]; exact hroom.2) (hw.2 hz) fun H1 cA e1 z1 o1 hAr hNm => ?_
  rw [← hw.2 hz] at z1 o1
  have hcA : cA = ex_c G 0 := Option.some.inj (hNm.symm.trans (hC.2.2.2.2.2.2.1.2 0 _ rfl).2)
  subst hcA
  exact k H1 locs ls hl (ex_wd_push hw hz z1 o1 e1) ⟨Nat.le_trans hS.1 (by omega), fun x h1 h2 => (o1 x (Nat.lt_of_lt_of_le h1 hS.1)).trans (hS.2.1 x h1 h2), hS.2.2⟩
theorem ev_newL {n : Int32} {N : Nat} (hC : Cx G C Y R0) (hd : decode Y.2.1 pc = .ok (.newarray .long, 2)) (har : Cond.arrayClass .long ∈ ex_tb) (hn : ¬ n < 0) (hN : n.toNatClampNeg = N) (hb : N * 8 ≤ 536870912) (hz : es.length < 83) (hroom : cl + 1 ≤ R0.cells ∧ sl + N ≤ R0.slots)
    (k : Ev G C Y (pc + 2) L (.ref (ex_b G + es.length) :: S) (cl + 1) (sl + N) (es ++ [.inl (ex_c G 1, N, .inr (.inl (fun _ => 0)))])) : Ev G C Y pc L (.int n :: S) cl sl es := by
  obtain ⟨p, e, R, s, m, args, below, meth, c, Q⟩ := C
  intro H locs ls hl hw hS
  have hRR : R = R0 := hC.2.2.2.2.2.1
  refine va_newaK (atype := .long) hC.1 hC.2.1 (hC.2.2.2.2.1 _ har) rfl hd rfl hn hN hb (by rw [hRR]; exact hroom.1) (by rw [hRR]; exact hroom.2) (hw.2 hz) fun H1 cA e1 z1 o1 hAr hNm => ?_
  rw [← hw.2 hz] at z1 o1
  have hcA : cA = ex_c G 1 := Option.some.inj (hNm.symm.trans (hC.2.2.2.2.2.2.1.2 1 _ rfl).2)
  subst hcA
  exact k H1 locs ls hl (ex_wd_push hw hz z1 o1 e1) ⟨Nat.le_trans hS.1 (by omega), fun x h1 h2 => (o1 x (Nat.lt_of_lt_of_le h1 hS.1)).trans (hS.2.1 x h1 h2), hS.2.2⟩
theorem ev_newA {t idx : Nat} {N0 : String} {n : Int32} {N : Nat} (hC : Cx G C Y R0) (hd : decode Y.2.1 pc = .ok (.anewarray idx, 3)) (ht : (ex_ty G)[t]? = some (ex_c G t, .object N0)) (hck : Cond.classLink Y.1.cls idx N0 ∈ ex_tb) (hov : Cond.arrayOver (.object N0) ∈ lw_tbl) (hn : ¬ n < 0) (hN : n.toNatClampNeg = N) (hb : N * 4 ≤ 536870912) (hz : es.length < 83) (hroom : cl + 1 ≤ R0.cells ∧ sl + N ≤ R0.slots)
    (k : Ev G C Y (pc + 3) L (.ref (ex_b G + es.length) :: S) (cl + 1) (sl + N) (es ++ [.inl (ex_c G t, N, .inr (.inr (.inr (.inr (fun _ => none)))))])) : Ev G C Y pc L (.int n :: S) cl sl es := by
  obtain ⟨p, e, R, s, m, args, below, meth, c, Q⟩ := C
  intro H locs ls hl hw hS
  have hRR : R = R0 := hC.2.2.2.2.2.1
  subst hN
  refine W.anew hC.1 hC.2.1 hC.2.2.2.1 (hC.2.2.2.2.1 _ hck) (va_AO.use (hC.2.2.2.2.2.2.2.2.2.1 _ hov rfl)) rfl hd rfl hn hb (by rw [hRR]; exact hroom.1) (by rw [hRR]; exact hroom.2) fun cA kA comp f1 f2 f3 f4 => ?_
  generalize hH1 : H.push ({ cls := cA, slots := Array.replicate n.toNatClampNeg .null, vm := .none } : Cell) = H1
  have z1 : H1.size = H.size + 1 := by rw [← hH1, Array.size_push]
  have e1 : H1[H.size]? = some (arrV cA n.toNatClampNeg (fun _ => .null)) := by rw [← hH1, Array.getElem?_push_size, ← arrV_new]
  have o1 : ∀ q : Nat, q < H.size → H1[q]? = H[q]? := fun q hq => by rw [← hH1, Array.getElem?_push, if_neg (Nat.ne_of_lt hq)]
  obtain ⟨kA2, comp2, g1, g2, g3, g4⟩ := (hC.2.2.2.2.2.2.1.2 t _ ht).2
  have hcA : cA = ex_c G t := Option.some.inj (f1.symm.trans g4)
  subst hcA
  have hH : H.size = ex_b G + es.length := hw.2 hz
  rw [hH]
  exact k H1 locs ls hl (ex_wd_push hw hz z1 o1 (by rw [hH] at e1; exact e1)) ⟨Nat.le_trans hS.1 (by omega), fun x h1 h2 => (o1 x (Nat.lt_of_lt_of_le h1 hS.1)).trans (hS.2.1 x h1 h2), hS.2.2⟩
/-- a made object goes into an array of its class -/
theorem ev_aast {j j2 n t ci : Nat} {q : vw_C} {vs : List Value} {f : Nat → Option Nat} {i : Int32} (hC : Cx G C Y R0) (hd : decode Y.2.1 pc = .ok (.aastore, 1)) (ht : (ex_ty G)[t]? = some (ex_c G t, .object q.1)) (he : es[j]? = some (.inl (ex_c G t, n, .inr (.inr (.inr (.inr f)))))) (he2 : es[j2]? = some (.inr (ci, vs))) (hcl : ex_cl[ci]? = some q) (hi : vp_in i n)
    (k : Ev G C Y (pc + 1) L S cl sl (es.set j (.inl (ex_c G t, n, .inr (.inr (.inr (.inr (va_up f i.toNatClampNeg (some (ex_b G + j2)))))))))) : Ev G C Y pc L (.ref (ex_b G + j2) :: .int i :: .ref (ex_b G + j) :: S) cl sl es := by
  obtain ⟨p, e, R, s, m, args, below, meth, c, Q⟩ := C
  intro H locs ls hl hw hS
  have hP := hw.1
  have hD := ex_wl_D G es
  have hb2 := ex_wl_get (b := ex_b G) he
  have hlt : i.toNatClampNeg < n := Nat.not_le.mp fun q => hi (Or.inr q)
  have h0 : ¬ i < 0 := fun q => hi (Or.inl q)
  obtain ⟨r', hr', cellV, g1, g2, g3, -⟩ := hP j2 _ (ex_wl_get he2)
  have hcls := (hC.2.2.2.2.2.2.1.1 ci q hcl).2
  obtain ⟨kA, comp, k1, k2, k3, -⟩ := (hC.2.2.2.2.2.2.1.2 t _ ht).2
  have hcomp : comp = (ex_D G).1 ci := Option.some.inj (k3.symm.trans hcls.1)
  subst hcomp
  obtain ⟨kC, hkC, -⟩ := hcls.2
  refine W.aast hC.1 hC.2.1 (hP j _ hb2) (fun q h => by cases h) (fun h => by cases h) k1 k2 rfl hkC ⟨h0, by show _ < (arrV _ _ _).slots.size; rw [arrV_size]; exact hlt⟩ g1 (fun q h => by rw [g3] at h; cases h) (by rw [g2]; exact hkC) (by rw [g2]; exact va_assign hcls) rfl rfl hd fun H2 e1 e2 e3 => ?_
  refine k H2 _ ls hl ⟨?_, fun z => by rw [e2, List.length_set]; rw [List.length_set] at z; exact hw.2 z⟩ (hS.put e2 e3 (hD.2 j _ hb2))
  rw [← ex_wl_set]
  refine hP.set hD hb2 ?_ e3
  show H2[ex_b G + j]? = some (vp_cell _ _)
  rw [e1]
  rw [vp_cell_q, vp_cell_q, arrV_store]
  congr 2
  funext q
  by_cases hq : q = i.toNatClampNeg
  · subst hq
    simp [updV, va_up, va_rf]
  · simp [updV, va_up, hq]
/-- a String constant goes into an array of Strings -/
theorem ev_aastS {j i0 n : Nat} {f : Nat → Option Nat} {i : Int32} (hC : Cx G C Y R0) (hd : decode Y.2.1 pc = .ok (.aastore, 1)) (he : es[j]? = some (.inl (ex_c G 5, n, .inr (.inr (.inr (.inr f)))))) (hi0 : i0 < 14) (hini : Cond.initialized "java/lang/String" ∈ ex_tb) (hi : vp_in i n)
    (k : Ev G C Y (pc + 1) L S cl sl (es.set j (.inl (ex_c G 5, n, .inr (.inr (.inr (.inr (va_up f i.toNatClampNeg (some (ex_sK G i0)))))))))) : Ev G C Y pc L (.ref (ex_sK G i0) :: .int i :: .ref (ex_b G + j) :: S) cl sl es := by
  obtain ⟨p, e, R, s, m, args, below, meth, c, Q⟩ := C
  intro H locs ls hl hw hS
  have hP := hw.1
  have hD := ex_wl_D G es
  have hb2 := ex_wl_get (b := ex_b G) he
  have hlt : i.toNatClampNeg < n := Nat.not_le.mp fun q => hi (Or.inr q)
  have h0 : ¬ i < 0 := fun q => hi (Or.inl q)
  obtain ⟨cellV, g1, g2, g3, -⟩ := (hC.2.2.2.2.2.2.2.1.2.2.2.2 i0 hi0).1.kept hS.2.1
  obtain ⟨kA, comp, k1, k2, k3, -⟩ := (hC.2.2.2.2.2.2.1.2 5 _ rfl).2
  have hcomp : comp = cellV.cls := Option.some.inj (k3.symm.trans g3)
  subst hcomp
  have hkk : ∃ kC : Class, s.vm.classes[cellV.cls]? = some kC := by
    have h1 := hC.2.2.2.2.1 _ hini
    cases hk : s.vm.classes[cellV.cls]? with
    | none => simp [Cond.before, Cond.holds, Cond.value, g3, hk] at h1
    | some kC => exact ⟨kC, rfl⟩
  obtain ⟨kC, hkC⟩ := hkk
  refine W.aast hC.1 hC.2.1 (hP j _ hb2) (fun q h => by cases h) (fun h => by cases h) k1 k2 rfl hkC ⟨h0, by show _ < (arrV _ _ _).slots.size; rw [arrV_size]; exact hlt⟩ g1 (fun q h => by rw [h] at g2; cases g2) hkC (va_asg _ _) rfl rfl hd fun H2 e1 e2 e3 => ?_
  refine k H2 _ ls hl ⟨?_, fun z => by rw [e2, List.length_set]; rw [List.length_set] at z; exact hw.2 z⟩ (hS.put e2 e3 (hD.2 j _ hb2))
  rw [← ex_wl_set]
  refine hP.set hD hb2 ?_ e3
  show H2[ex_b G + j]? = some (vp_cell _ _)
  rw [e1]
  rw [vp_cell_q, vp_cell_q, arrV_store]
  congr 2
  funext q
  by_cases hq : q = i.toNatClampNeg
  · subst hq
    simp [updV, va_up, va_rf]
  · simp [updV, va_up, hq]
/-- System.arraycopy between rows of longs -/
theorem ev_copyL {idx j0 j n0 n1 : Nat} {f g : Nat → Int64} {sp dp n : Int32} (hC : Cx G C Y R0) (hd : decode Y.2.1 pc = .ok (.invokestatic idx, 3)) (hlk : Cond.methodLink Y.1.cls idx arraycopyName ∈ ex_tb) (hna : Cond.native arraycopyName ∈ ex_tb) (hst : Cond.static arraycopyName ∈ ex_tb) (hini : Cond.initialized "java/lang/System" ∈ ex_tb) (hfull : 83 ≤ es.length)
    (he0 : es[j0]? = some (.inl (ex_c G 1, n0, .inr (.inl f)))) (he : es[j]? = some (.inl (ex_c G 1, n1, .inr (.inl g)))) (h1 : ¬ sp < 0) (h2 : ¬ dp < 0) (h3 : ¬ n < 0) (h4 : sp.toNatClampNeg + n.toNatClampNeg ≤ n0) (h5 : dp.toNatClampNeg + n.toNatClampNeg ≤ n1) (hroom : 1 ≤ R0.frames ∧ (S.map fun v => v.category).sum + (nativeFrameWords "java/lang/System" "arraycopy" 5 + 11) ≤ R0.locals)
    (k : Ev G C Y (pc + 3) L S cl sl (es.set j (.inl (ex_c G 1, n1, .inr (.inl (va_cpy f g sp.toNatClampNeg dp.toNatClampNeg n.toNatClampNeg)))))) : Ev G C Y pc L (.int n :: .int dp :: .ref (ex_b G + j) :: .int sp :: .ref (ex_b G + j0) :: S) cl sl es := by
  obtain ⟨p, e, R, s, m, args, below, meth, c, Q⟩ := C
  intro H locs ls hl hw hS
  have hRR : R = R0 := hC.2.2.2.2.2.1
  refine va_copyl hC.1 hC.2.1 (hC.2.2.1.trans hl.1.symm) hC.2.2.2.1 (hC.2.2.2.2.1 _ hlk) (hC.2.2.2.2.1 _ hna) (hC.2.2.2.2.1 _ hst) (hC.2.2.2.2.1 _ hini) hC.2.2.2.2.2.2.1 hw.1 (ex_wl_D G es) hS j0 j 1 1 (ex_wl_get he0) (ex_wl_get he) rfl rfl rfl h1 h2 h3 h4 h5 (fun _ _ => rfl) (by rw [hRR]; exact hroom.1) (by rw [hRR]; exact hroom.2) hd fun H1 locs1 hP1 hD1 hS1 => ?_
  rw [ex_wl_set] at hP1
  exact k H1 locs1 ls hl ⟨hP1, fun z => absurd z (by rw [List.length_set]; omega)⟩ hS1
/-- a static, and what lies in the constants' tables -/
theorem ev_above {idx : Nat} (hC : Cx G C Y R0) (hd : decode Y.2.1 pc = .ok (.getstatic idx, 3)) (hlk : Cond.fieldLink Y.1.cls idx "DayBehind$Kinds" "ABOVE" "[I" ∈ ex_tb) (k : Ev G C Y (pc + 3) L (.ref (ex_ab G) :: S) cl sl es) : Ev G C Y pc L S cl sl es := by
  obtain ⟨p, e, R, s, m, args, below, meth, c, Q⟩ := C
  exact fun H locs ls hl hw hS => va_gets hC.1 hC.2.1 hC.2.2.2.2.2.2.2.1.1 hS hC.2.2.2.1 (hC.2.2.2.2.1 _ hlk) (fun _ h => h) hd (k H locs ls hl hw hS)
theorem ev_aboveAt {i : Int32} (hC : Cx G C Y R0) (hd : decode Y.2.1 pc = .ok (.iaload, 1)) (hi : vp_in i 6) (k : Ev G C Y (pc + 1) L (.int (ck_above i.toNatClampNeg) :: S) cl sl es) : Ev G C Y pc L (.int i :: .ref (ex_ab G) :: S) cl sl es := by
  obtain ⟨p, e, R, s, m, args, below, meth, c, Q⟩ := C
  exact fun H locs ls hl hw hS => va_ti hC.1 hC.2.1 hC.2.2.2.2.2.2.2.1.2.1 hS hi rfl hd (k H locs ls hl hw hS)
theorem ev_compact {idx : Nat} (hC : Cx G C Y R0) (hd : decode Y.2.1 pc = .ok (.getstatic idx, 3)) (hlk : Cond.fieldLink Y.1.cls idx "java/lang/String" "COMPACT_STRINGS" "Z" ∈ ex_tb) (k : Ev G C Y (pc + 3) L (.int 1 :: S) cl sl es) : Ev G C Y pc L S cl sl es := by
  obtain ⟨p, e, R, s, m, args, below, meth, c, Q⟩ := C
  exact fun H locs ls hl hw hS => va_gets hC.1 hC.2.1 hC.2.2.2.2.2.2.2.1.2.2.1 hS hC.2.2.2.1 (hC.2.2.2.2.1 _ hlk) (fun _ h => h) hd (k H locs ls hl hw hS)
theorem ev_format {idx : Nat} (hC : Cx G C Y R0) (hd : decode Y.2.1 pc = .ok (.getstatic idx, 3)) (hlk : Cond.fieldLink Y.1.cls idx "jdk/internal/util/Preconditions" "SIOOBE_FORMATTER" "Ljava/util/function/BiFunction;" ∈ ex_tb) (k : ∀ v : Value, (v = .null ∨ ∃ a, v = .ref a) → Ev G C Y (pc + 3) L (v :: S) cl sl es) : Ev G C Y pc L S cl sl es := by
  obtain ⟨p, e, R, s, m, args, below, meth, c, Q⟩ := C
  intro H locs ls hl hw hS
  rcases hC.2.2.2.2.2.2.2.1.2.2.2.1 with hZ | ⟨t, hZ⟩
  · exact va_gets hC.1 hC.2.1 hZ hS hC.2.2.2.1 (hC.2.2.2.2.1 _ hlk) (fun _ h => h) hd (k _ (Or.inl rfl) H locs ls hl hw hS)
  · exact va_gets hC.1 hC.2.1 hZ hS hC.2.2.2.1 (hC.2.2.2.2.1 _ hlk) (fun _ h => h) hd (k _ (Or.inr ⟨t, rfl⟩) H locs ls hl hw hS)
theorem ev_strCoder {idx i : Nat} (hC : Cx G C Y R0) (hd : decode Y.2.1 pc = .ok (.getfield idx, 3)) (hi : i < 14) (hlk : Cond.fieldLink Y.1.cls idx "java/lang/String" "coder" "B" ∈ ex_tb) (k : Ev G C Y (pc + 3) L (.int 0 :: S) cl sl es) : Ev G C Y pc L (.ref (ex_sK G i) :: S) cl sl es := by
  obtain ⟨p, e, R, s, m, args, below, meth, c, Q⟩ := C
  exact fun H locs ls hl hw hS => vk_getf hC.1 hC.2.1 (hC.2.2.2.2.2.2.2.1.2.2.2.2 i hi).2.1 hS hC.2.2.2.1 (hC.2.2.2.2.1 _ hlk) (fun _ h => h) hd (k H locs ls hl hw hS)
theorem ev_strValue {idx i : Nat} (hC : Cx G C Y R0) (hd : decode Y.2.1 pc = .ok (.getfield idx, 3)) (hi : i < 14) (hlk : Cond.fieldLink Y.1.cls idx "java/lang/String" "value" "[B" ∈ ex_tb) (k : Ev G C Y (pc + 3) L (.ref (ex_sV G i) :: S) cl sl es) : Ev G C Y pc L (.ref (ex_sK G i) :: S) cl sl es := by
  obtain ⟨p, e, R, s, m, args, below, meth, c, Q⟩ := C
  exact fun H locs ls hl hw hS => vk_getf hC.1 hC.2.1 (hC.2.2.2.2.2.2.2.1.2.2.2.2 i hi).2.2.1 hS hC.2.2.2.1 (hC.2.2.2.2.1 _ hlk) (fun _ h => h) hd (k H locs ls hl hw hS)
theorem ev_strByte {i : Nat} {x : Int32} (hC : Cx G C Y R0) (hd : decode Y.2.1 pc = .ok (.baload, 1)) (hi : i < 14) (hx : vp_in x (ck_len.getD i 0)) (k : Ev G C Y (pc + 1) L (.int ((ck_byt.getD i []).getD x.toNatClampNeg 0) :: S) cl sl es) : Ev G C Y pc L (.int x :: .ref (ex_sV G i) :: S) cl sl es := by
  obtain ⟨p, e, R, s, m, args, below, meth, c, Q⟩ := C
  exact fun H locs ls hl hw hS => va_tb hC.1 hC.2.1 (hC.2.2.2.2.2.2.2.1.2.2.2.2 i hi).2.2.2 hS hx rfl hd (k H locs ls hl hw hS)
theorem ev_strLen {i : Nat} (hC : Cx G C Y R0) (hd : decode Y.2.1 pc = .ok (.arraylength, 1)) (hi : i < 14) (k : Ev G C Y (pc + 1) L (.int (Int32.ofNat (ck_len.getD i 0)) :: S) cl sl es) : Ev G C Y pc L (.ref (ex_sV G i) :: S) cl sl es := by
  obtain ⟨p, e, R, s, m, args, below, meth, c, Q⟩ := C
  intro H locs ls hl hw hS
  obtain ⟨cell, h1, h2, h3, h4, h5, h6, h7⟩ := (hC.2.2.2.2.2.2.2.1.2.2.2.2 i hi).2.2.2.kept hS.2.1
  exact W.alen hC.1 hC.2.1 h1 h2 h5 rfl rfl hd (k H locs ls hl hw hS)
end EvNew
