set_option maxHeartbeats 1000000 in
theorem Con.ofF {G : ex_G} {Y : ex_Y} {F X mc ms : Nat} {av : List Value} {es : List va_E} {r : Option Value} {es2 : List va_E} (hy : plainFor Y.1 = true) (hn : (lg_sl av).length ≤ Y.2.2.1)
    (h : ∀ C : ex_C, Cx G C Y { frames := F, cells := mc, slots := ms, locals := X } → Cr G C Y mc ms r es2 → Ev G C Y 0 (ex_en av) [] 0 0 es) : Con G Y F X mc ms av es r es2 := by
  refine va_MetF (cc := Y.2.1) (maxL := Y.2.2.1) (ret := Y.2.2.2) hy rfl ?_
  intro p e s m args below meth c s₁ B hml hv
  obtain ⟨rfl, hK, hw⟩ := hv
  have hts := atoms_spec B.pre
  have hCx : Cx G (p, e, { frames := F, cells := mc, slots := ms, locals := X }, s, m, av.toArray, below, meth, c, MQ below (ex_Q G r es2) av.toArray s mc ms (ex_A G)) Y { frames := F, cells := mc, slots := ms, locals := X } :=
    ⟨B.exec, B.bytes, hml, findClass_of_methodNamed B.named, fun w hw => hts w (List.mem_cons_of_mem _ hw), rfl, hK⟩
  have hCr : Cr G (p, e, { frames := F, cells := mc, slots := ms, locals := X }, s, m, av.toArray, below, meth, c, MQ below (ex_Q G r es2) av.toArray s mc ms (ex_A G)) Y mc ms r es2 :=
    ⟨B.returns, B.notSynchronized, (name_of_methodNamed B.named B.method).1, rfl⟩
  have hl := lv_entry av (n := Y.2.2.1) hn
  rw [lg_entry_eq]
  exact h _ hCx hCr s.heap [] _ (ex_has_sub hl (ex_en_args av 0)) hw va_S.rf
/-- a contract may be said of an equal answer and an equal world -/
theorem Con.to {G : ex_G} {Y : ex_Y} {F X mc ms : Nat} {av : List Value} {es : List va_E} {r r1 : Option Value} {es2 es3 : List va_E} (h : Con G Y F X mc ms av es r es2) (e1 : r = r1) (e2 : es2 = es3) : Con G Y F X mc ms av es r1 es3 := e1 ▸ e2 ▸ h
theorem Ev.to {G : ex_G} {C : ex_C} {Y : ex_Y} {pc cl sl : Nat} {L L2 : List (Option Value)} {S S2 : List Value} {es es2 : List va_E} (h : Ev G C Y pc L2 S2 cl sl es2) (e1 : L = L2) (e2 : S = S2) (e3 : es = es2) : Ev G C Y pc L S cl sl es := e1 ▸ e2 ▸ e3 ▸ h
