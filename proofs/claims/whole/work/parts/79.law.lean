/-! THE LAW: the pair is made, then call by call both sides answer alike -/
def Sc (G : ex_G) (C : ex_C) (b N : Nat) (xs : Nat → Int32) : Prop := match C with
  | (_, _, _, s, _, _, _, _, _, _) => va_X b N xs s s.heap ∧ b < s.heap.size ∧ ¬ ex_A G b
section EvScript
variable {G : ex_G} {C : ex_C} {Y : ex_Y} {R0 : Room} {pc cl sl b N : Nat} {xs : Nat → Int32} {L : List (Option Value)} {S : List Value} {es : List va_E}
theorem ev_slen (hC : Cx G C Y R0) (hX : Sc G C b N xs) (hd : decode Y.2.1 pc = .ok (.arraylength, 1)) (k : Ev G C Y (pc + 1) L (.int (nI N) :: S) cl sl es) : Ev G C Y pc L (.ref b :: S) cl sl es := by
  obtain ⟨p, e, R, s, m, args, below, meth, c, Q⟩ := C
  exact fun H locs ls hl hw hS => va_slen hC.1 hC.2.1 hX.1 hX.2.1 hX.2.2 hS hd (k H locs ls hl hw hS)
theorem ev_sld {i : Nat} (hC : Cx G C Y R0) (hX : Sc G C b N xs) (hd : decode Y.2.1 pc = .ok (.iaload, 1)) (hi : i < N) (hN : N < 2 ^ 31) (k : Ev G C Y (pc + 1) L (.int (xs i) :: S) cl sl es) : Ev G C Y pc L (.int (nI i) :: .ref b :: S) cl sl es := by
  obtain ⟨p, e, R, s, m, args, below, meth, c, Q⟩ := C
  exact fun H locs ls hl hw hS => va_sld hC.1 hC.2.1 hX.1 hX.2.1 hX.2.2 hS (vp_in_nI hi hN) hd (by rw [nI_clamp (by omega)]; exact k H locs ls hl hw hS)
end EvScript
theorem nI_6 (a : Nat) : nI a + 6 = nI (a + 6) := nI_add a 6
theorem lm6 {N i : Nat} (hN : N ≤ 3072) (hi : i ≤ 3078) (h : ¬ nI N - nI 6 < nI i) : i + 6 ≤ N := by
  rw [Int32.lt_iff_toInt_lt, pk_sub_toInt (by omega) (by omega), nI_toInt (by omega)] at h
  omega
theorem lcmp_self (x : Int64) : lg_cmp x x = 0 := by
  unfold lg_cmp
  have h : ¬ x > x := fun q => Int64.lt_irrefl q
  rw [if_neg h, if_pos rfl]
theorem Rel_M0 : Rel M0 := by
  refine ⟨⟨0, 0, ⟨⟨⟨rfl, by omega, rfl, by omega, fun e h => absurd h (by omega), fun e h => absurd h (by omega), fun e h => absurd h (by omega)⟩, by decide, fun e h => absurd h (by omega), fun e h => absurd h (by omega)⟩, fun j hj => rfl, fun j h4 hj => absurd hj (by omega), fun i f hi => absurd hi (by omega)⟩, rfl⟩, ⟨Or.inl rfl, rfl, fun h => absurd rfl h⟩, rfl, ⟨fun k hk => rfl, by decide⟩, ⟨0, by omega, rfl, rfl, fun j hj => absurd hj (by omega)⟩, fun s hs => ⟨rfl, rfl, ⟨0, by omega, rfl⟩, fun i hi => rfl⟩⟩

set_option maxHeartbeats 20000000 in
set_option maxRecDepth 20000 in
theorem law_loop {G : ex_G} {C : ex_C} {b N : Nat} {xs : Nat → Int32} (hN : N ≤ 3072) (hX : Sc G C b N xs) (hC : Cx G C Y_Law_law room_1) (hfin : ∀ (L : List (Option Value)) (es : List va_E), Ev G C Y_Law_law 1473 L [.int 1] 83 1843 es) :
    ∀ (m i : Nat) (M : ex_M), Rel M → N ≤ i + 6 * m → i ≤ 3078 → Ev G C Y_Law_law 18 [some (.ref b), some (.ref (ex_b G + 0)), some (.ref (ex_b G + 71)), some (.int (nI i))] [] 83 1843 (ce G M) := by
  intro m
  induction m with
  | zero =>
    intro i M h hm hi
    refine ev_iload_n rfl hC d_Law_law_18 ?_
    refine ev_aload_n rfl hC d_Law_law_19 ?_
    refine ev_slen hC hX d_Law_law_20 ?_
    refine ev_bipush (v := nI 6) rfl hC d_Law_law_21 ?_
    refine ev_isub hC d_Law_law_23 ?_
    refine ev_icmp_gt 1472 hC d_Law_law_24 rfl (fun h_24 => ?_) (fun h_24 => ?_)
    · refine ev_iconst (v := 1) rfl hC d_Law_law_1472 ?_
      exact hfin _ _
    · exact absurd (lm6 hN hi h_24) (by omega)
  | succ m ih =>
    intro i M h hm hi
    refine ev_iload_n rfl hC d_Law_law_18 ?_
    refine ev_aload_n rfl hC d_Law_law_19 ?_
    refine ev_slen hC hX d_Law_law_20 ?_
    refine ev_bipush (v := nI 6) rfl hC d_Law_law_21 ?_
    refine ev_isub hC d_Law_law_23 ?_
    refine ev_icmp_gt 1472 hC d_Law_law_24 rfl (fun h_24 => ?_) (fun h_24 => ?_)
    · refine ev_iconst (v := 1) rfl hC d_Law_law_1472 ?_
      exact hfin _ _
    · have h6 := lm6 hN hi h_24
      refine ev_aload_n rfl hC d_Law_law_27 ?_
      refine ev_iload_n rfl hC d_Law_law_28 ?_
      refine ev_sld hC hX d_Law_law_29 (by omega) (by omega) ?_
      refine ev_bipush (v := 63) rfl hC d_Law_law_30 ?_
      refine ev_iand hC d_Law_law_32 ?_
      refine sx_Law_law_33 hC (fun h_33 => ?_) (fun h_33 => ?_) (fun h_33 => ?_) (fun h_33 => ?_) (fun h_33 => ?_) (fun h_33 => ?_) (fun h_33 => ?_) (fun h_33 => ?_) (fun h_33 => ?_) (fun h_33 => ?_) (fun h_33 => ?_) (fun h_33 => ?_) (fun h_33 => ?_) (fun h_33 => ?_) (fun h_33 => ?_) (fun h_33 => ?_) (fun h_33 => ?_) (fun h_33 => ?_) (fun h_33 => ?_) (fun h_33 => ?_) (fun h_33 => ?_) (fun h_33 => ?_) (fun h_33 => ?_) (fun h_33 => ?_) (fun h_33 => ?_) (fun h_33 => ?_) (fun h_33 => ?_) (fun h_33 => ?_) (fun h_33 => ?_) (fun h_33 => ?_) (fun h_33 => ?_) (fun h_33 => ?_) (fun h_33 => ?_) (fun h_33 => ?_) (fun h_33 => ?_) (fun h_33 => ?_) (fun h_33 => ?_) (fun h_33 => ?_) (fun h_33 => ?_) (fun h_33 => ?_) (fun h_33 => ?_) (fun h_33 => ?_)
      · refine ev_iinc rfl (by decide) (nI_6 i) hC d_Law_law_1466 ?_
        refine ev_goto 18 hC d_Law_law_1469 rfl ?_
        exact ih (i + 6) M h (by omega) (by omega)
      · obtain ⟨v, M1, M2, c1, c2, hr⟩ := L_toll (G := G) (M := M) (v := xs (i + 1)) h
        refine ev_aload_n rfl hC d_Law_law_212 ?_
        refine ev_aload_n rfl hC d_Law_law_213 ?_
        refine ev_iload_n rfl hC d_Law_law_214 ?_
        refine ev_iconst (v := nI 1) rfl hC d_Law_law_215 ?_
        refine ev_iadd hC d_Law_law_216 ?_
        rw [nI_add]
        refine ev_sld hC hX d_Law_law_217 (by omega) (by omega) ?_
        refine cv_Day1 hC d_Law_law_218 (c1) mi_Day_toll ml_Law_13 im_Day_toll se_Day_toll rfl ⟨Nat.le_of_ble_eq_true rfl, Nat.le_of_ble_eq_true rfl⟩ ⟨Nat.le_of_ble_eq_true rfl, Nat.le_of_ble_eq_true rfl⟩ rfl rfl (Nat.le_of_ble_eq_true rfl)  ?_
        refine ev_aload_n rfl hC d_Law_law_221 ?_
        refine ev_aload_n rfl hC d_Law_law_222 ?_
        refine ev_iload_n rfl hC d_Law_law_223 ?_
        refine ev_iconst (v := nI 1) rfl hC d_Law_law_224 ?_
        refine ev_iadd hC d_Law_law_225 ?_
        rw [nI_add]
        refine ev_sld hC hX d_Law_law_226 (by omega) (by omega) ?_
        refine cv_Mod1 hC d_Law_law_227 (c2) mi_Mod_toll ml_Law_17 im_Mod_toll se_Mod_toll rfl ⟨Nat.le_of_ble_eq_true rfl, Nat.le_of_ble_eq_true rfl⟩ ⟨Nat.le_of_ble_eq_true rfl, Nat.le_of_ble_eq_true rfl⟩ rfl rfl (Nat.le_of_ble_eq_true rfl)  ?_
        refine ev_icmp_eq 1466 hC d_Law_law_230 rfl (fun _ => ?_) (fun h => absurd rfl h)
        refine ev_iinc rfl (by decide) (nI_6 i) hC d_Law_law_1466 ?_
        refine ev_goto 18 hC d_Law_law_1469 rfl ?_
        exact ih (i + 6) M2 hr (by omega) (by omega)
      · obtain ⟨v, M1, M2, c1, c2, hr⟩ := L_event (G := G) (M := M) (x := xs (i + 1)) (w := xs (i + 2)) h
        refine ev_aload_n rfl hC d_Law_law_235 ?_
        refine ev_aload_n rfl hC d_Law_law_236 ?_
        refine ev_iload_n rfl hC d_Law_law_237 ?_
        refine ev_iconst (v := nI 1) rfl hC d_Law_law_238 ?_
        refine ev_iadd hC d_Law_law_239 ?_
        rw [nI_add]
        refine ev_sld hC hX d_Law_law_240 (by omega) (by omega) ?_
        refine ev_aload_n rfl hC d_Law_law_241 ?_
        refine ev_iload_n rfl hC d_Law_law_242 ?_
        refine ev_iconst (v := nI 2) rfl hC d_Law_law_243 ?_
        refine ev_iadd hC d_Law_law_244 ?_
        rw [nI_add]
        refine ev_sld hC hX d_Law_law_245 (by omega) (by omega) ?_
        refine cv_Day1 hC d_Law_law_246 (c1) mi_Day_event ml_Law_18 im_Day_event se_Day_event rfl ⟨Nat.le_of_ble_eq_true rfl, Nat.le_of_ble_eq_true rfl⟩ ⟨Nat.le_of_ble_eq_true rfl, Nat.le_of_ble_eq_true rfl⟩ rfl rfl (Nat.le_of_ble_eq_true rfl)  ?_
        refine ev_aload_n rfl hC d_Law_law_249 ?_
        refine ev_aload_n rfl hC d_Law_law_250 ?_
        refine ev_iload_n rfl hC d_Law_law_251 ?_
        refine ev_iconst (v := nI 1) rfl hC d_Law_law_252 ?_
        refine ev_iadd hC d_Law_law_253 ?_
        rw [nI_add]
        refine ev_sld hC hX d_Law_law_254 (by omega) (by omega) ?_
        refine ev_aload_n rfl hC d_Law_law_255 ?_
        refine ev_iload_n rfl hC d_Law_law_256 ?_
        refine ev_iconst (v := nI 2) rfl hC d_Law_law_257 ?_
        refine ev_iadd hC d_Law_law_258 ?_
        rw [nI_add]
        refine ev_sld hC hX d_Law_law_259 (by omega) (by omega) ?_
        refine cv_Mod1 hC d_Law_law_260 (c2) mi_Mod_event ml_Law_22 im_Mod_event se_Mod_event rfl ⟨Nat.le_of_ble_eq_true rfl, Nat.le_of_ble_eq_true rfl⟩ ⟨Nat.le_of_ble_eq_true rfl, Nat.le_of_ble_eq_true rfl⟩ rfl rfl (Nat.le_of_ble_eq_true rfl)  ?_
        refine ev_icmp_eq 1466 hC d_Law_law_263 rfl (fun _ => ?_) (fun h => absurd rfl h)
        refine ev_iinc rfl (by decide) (nI_6 i) hC d_Law_law_1466 ?_
        refine ev_goto 18 hC d_Law_law_1469 rfl ?_
        exact ih (i + 6) M2 hr (by omega) (by omega)
      · obtain ⟨v, M1, M2, c1, c2, hr⟩ := L_eventOf (G := G) (M := M) (e := xs (i + 1)) (w := xs (i + 2)) h
        refine ev_aload_n rfl hC d_Law_law_268 ?_
        refine ev_aload_n rfl hC d_Law_law_269 ?_
        refine ev_iload_n rfl hC d_Law_law_270 ?_
        refine ev_iconst (v := nI 1) rfl hC d_Law_law_271 ?_
        refine ev_iadd hC d_Law_law_272 ?_
        rw [nI_add]
        refine ev_sld hC hX d_Law_law_273 (by omega) (by omega) ?_
        refine ev_aload_n rfl hC d_Law_law_274 ?_
        refine ev_iload_n rfl hC d_Law_law_275 ?_
        refine ev_iconst (v := nI 2) rfl hC d_Law_law_276 ?_
        refine ev_iadd hC d_Law_law_277 ?_
        rw [nI_add]
        refine ev_sld hC hX d_Law_law_278 (by omega) (by omega) ?_
        refine cv_Day1 hC d_Law_law_279 (c1) mi_Day_eventOf ml_Law_23 im_Day_eventOf se_Day_eventOf rfl ⟨Nat.le_of_ble_eq_true rfl, Nat.le_of_ble_eq_true rfl⟩ ⟨Nat.le_of_ble_eq_true rfl, Nat.le_of_ble_eq_true rfl⟩ rfl rfl (Nat.le_of_ble_eq_true rfl)  ?_
        refine ev_aload_n rfl hC d_Law_law_282 ?_
        refine ev_aload_n rfl hC d_Law_law_283 ?_
        refine ev_iload_n rfl hC d_Law_law_284 ?_
        refine ev_iconst (v := nI 1) rfl hC d_Law_law_285 ?_
        refine ev_iadd hC d_Law_law_286 ?_
        rw [nI_add]
        refine ev_sld hC hX d_Law_law_287 (by omega) (by omega) ?_
        refine ev_aload_n rfl hC d_Law_law_288 ?_
        refine ev_iload_n rfl hC d_Law_law_289 ?_
        refine ev_iconst (v := nI 2) rfl hC d_Law_law_290 ?_
        refine ev_iadd hC d_Law_law_291 ?_
        rw [nI_add]
        refine ev_sld hC hX d_Law_law_292 (by omega) (by omega) ?_
        refine cv_Mod1 hC d_Law_law_293 (c2) mi_Mod_eventOf ml_Law_26 im_Mod_eventOf se_Mod_eventOf rfl ⟨Nat.le_of_ble_eq_true rfl, Nat.le_of_ble_eq_true rfl⟩ ⟨Nat.le_of_ble_eq_true rfl, Nat.le_of_ble_eq_true rfl⟩ rfl rfl (Nat.le_of_ble_eq_true rfl)  ?_
        refine ev_icmp_eq 1466 hC d_Law_law_296 rfl (fun _ => ?_) (fun h => absurd rfl h)
        refine ev_iinc rfl (by decide) (nI_6 i) hC d_Law_law_1466 ?_
        refine ev_goto 18 hC d_Law_law_1469 rfl ?_
        exact ih (i + 6) M2 hr (by omega) (by omega)
      · obtain ⟨v, M1, M2, c1, c2, hr⟩ := L_worth (G := G) (M := M) (e := xs (i + 1)) (v := xs (i + 2)) h
        refine ev_aload_n rfl hC d_Law_law_301 ?_
        refine ev_aload_n rfl hC d_Law_law_302 ?_
        refine ev_iload_n rfl hC d_Law_law_303 ?_
        refine ev_iconst (v := nI 1) rfl hC d_Law_law_304 ?_
        refine ev_iadd hC d_Law_law_305 ?_
        rw [nI_add]
        refine ev_sld hC hX d_Law_law_306 (by omega) (by omega) ?_
        refine ev_aload_n rfl hC d_Law_law_307 ?_
        refine ev_iload_n rfl hC d_Law_law_308 ?_
        refine ev_iconst (v := nI 2) rfl hC d_Law_law_309 ?_
        refine ev_iadd hC d_Law_law_310 ?_
        rw [nI_add]
        refine ev_sld hC hX d_Law_law_311 (by omega) (by omega) ?_
        refine cv_Day1 hC d_Law_law_312 (c1) mi_Day_worth ml_Law_27 im_Day_worth se_Day_worth rfl ⟨Nat.le_of_ble_eq_true rfl, Nat.le_of_ble_eq_true rfl⟩ ⟨Nat.le_of_ble_eq_true rfl, Nat.le_of_ble_eq_true rfl⟩ rfl rfl (Nat.le_of_ble_eq_true rfl)  ?_
        refine ev_aload_n rfl hC d_Law_law_315 ?_
        refine ev_aload_n rfl hC d_Law_law_316 ?_
        refine ev_iload_n rfl hC d_Law_law_317 ?_
        refine ev_iconst (v := nI 1) rfl hC d_Law_law_318 ?_
        refine ev_iadd hC d_Law_law_319 ?_
        rw [nI_add]
        refine ev_sld hC hX d_Law_law_320 (by omega) (by omega) ?_
        refine ev_aload_n rfl hC d_Law_law_321 ?_
        refine ev_iload_n rfl hC d_Law_law_322 ?_
        refine ev_iconst (v := nI 2) rfl hC d_Law_law_323 ?_
        refine ev_iadd hC d_Law_law_324 ?_
        rw [nI_add]
        refine ev_sld hC hX d_Law_law_325 (by omega) (by omega) ?_
        refine cv_Mod1 hC d_Law_law_326 (c2) mi_Mod_worth ml_Law_30 im_Mod_worth se_Mod_worth rfl ⟨Nat.le_of_ble_eq_true rfl, Nat.le_of_ble_eq_true rfl⟩ ⟨Nat.le_of_ble_eq_true rfl, Nat.le_of_ble_eq_true rfl⟩ rfl rfl (Nat.le_of_ble_eq_true rfl)  ?_
        refine ev_icmp_eq 1466 hC d_Law_law_329 rfl (fun _ => ?_) (fun h => absurd rfl h)
        refine ev_iinc rfl (by decide) (nI_6 i) hC d_Law_law_1466 ?_
        refine ev_goto 18 hC d_Law_law_1469 rfl ?_
        exact ih (i + 6) M2 hr (by omega) (by omega)
      · obtain ⟨v, M1, M2, c1, c2, hr⟩ := L_one (G := G) (M := M) (x := xs (i + 1)) (w := xs (i + 2)) h
        refine ev_aload_n rfl hC d_Law_law_334 ?_
        refine ev_aload_n rfl hC d_Law_law_335 ?_
        refine ev_iload_n rfl hC d_Law_law_336 ?_
        refine ev_iconst (v := nI 1) rfl hC d_Law_law_337 ?_
        refine ev_iadd hC d_Law_law_338 ?_
        rw [nI_add]
        refine ev_sld hC hX d_Law_law_339 (by omega) (by omega) ?_
        refine ev_aload_n rfl hC d_Law_law_340 ?_
        refine ev_iload_n rfl hC d_Law_law_341 ?_
        refine ev_iconst (v := nI 2) rfl hC d_Law_law_342 ?_
        refine ev_iadd hC d_Law_law_343 ?_
        rw [nI_add]
        refine ev_sld hC hX d_Law_law_344 (by omega) (by omega) ?_
        refine cv_Day1 hC d_Law_law_345 (c1) mi_Day_one ml_Law_31 im_Day_one se_Day_one rfl ⟨Nat.le_of_ble_eq_true rfl, Nat.le_of_ble_eq_true rfl⟩ ⟨Nat.le_of_ble_eq_true rfl, Nat.le_of_ble_eq_true rfl⟩ rfl rfl (Nat.le_of_ble_eq_true rfl)  ?_
        refine ev_aload_n rfl hC d_Law_law_348 ?_
        refine ev_aload_n rfl hC d_Law_law_349 ?_
        refine ev_iload_n rfl hC d_Law_law_350 ?_
        refine ev_iconst (v := nI 1) rfl hC d_Law_law_351 ?_
        refine ev_iadd hC d_Law_law_352 ?_
        rw [nI_add]
        refine ev_sld hC hX d_Law_law_353 (by omega) (by omega) ?_
        refine ev_aload_n rfl hC d_Law_law_354 ?_
        refine ev_iload_n rfl hC d_Law_law_355 ?_
        refine ev_iconst (v := nI 2) rfl hC d_Law_law_356 ?_
        refine ev_iadd hC d_Law_law_357 ?_
        rw [nI_add]
        refine ev_sld hC hX d_Law_law_358 (by omega) (by omega) ?_
        refine cv_Mod1 hC d_Law_law_359 (c2) mi_Mod_one ml_Law_34 im_Mod_one se_Mod_one rfl ⟨Nat.le_of_ble_eq_true rfl, Nat.le_of_ble_eq_true rfl⟩ ⟨Nat.le_of_ble_eq_true rfl, Nat.le_of_ble_eq_true rfl⟩ rfl rfl (Nat.le_of_ble_eq_true rfl)  ?_
        refine ev_icmp_eq 1466 hC d_Law_law_362 rfl (fun _ => ?_) (fun h => absurd rfl h)
        refine ev_iinc rfl (by decide) (nI_6 i) hC d_Law_law_1466 ?_
        refine ev_goto 18 hC d_Law_law_1469 rfl ?_
        exact ih (i + 6) M2 hr (by omega) (by omega)
      · obtain ⟨v, M1, M2, c1, c2, hr⟩ := L_of (G := G) (M := M) (p := xs (i + 1)) (w := xs (i + 2)) h
        refine ev_aload_n rfl hC d_Law_law_367 ?_
        refine ev_aload_n rfl hC d_Law_law_368 ?_
        refine ev_iload_n rfl hC d_Law_law_369 ?_
        refine ev_iconst (v := nI 1) rfl hC d_Law_law_370 ?_
        refine ev_iadd hC d_Law_law_371 ?_
        rw [nI_add]
        refine ev_sld hC hX d_Law_law_372 (by omega) (by omega) ?_
        refine ev_aload_n rfl hC d_Law_law_373 ?_
        refine ev_iload_n rfl hC d_Law_law_374 ?_
        refine ev_iconst (v := nI 2) rfl hC d_Law_law_375 ?_
        refine ev_iadd hC d_Law_law_376 ?_
        rw [nI_add]
        refine ev_sld hC hX d_Law_law_377 (by omega) (by omega) ?_
        refine cv_Day1 hC d_Law_law_378 (c1) mi_Day_of ml_Law_35 im_Day_of se_Day_of rfl ⟨Nat.le_of_ble_eq_true rfl, Nat.le_of_ble_eq_true rfl⟩ ⟨Nat.le_of_ble_eq_true rfl, Nat.le_of_ble_eq_true rfl⟩ rfl rfl (Nat.le_of_ble_eq_true rfl)  ?_
        refine ev_aload_n rfl hC d_Law_law_381 ?_
        refine ev_aload_n rfl hC d_Law_law_382 ?_
        refine ev_iload_n rfl hC d_Law_law_383 ?_
        refine ev_iconst (v := nI 1) rfl hC d_Law_law_384 ?_
        refine ev_iadd hC d_Law_law_385 ?_
        rw [nI_add]
        refine ev_sld hC hX d_Law_law_386 (by omega) (by omega) ?_
        refine ev_aload_n rfl hC d_Law_law_387 ?_
        refine ev_iload_n rfl hC d_Law_law_388 ?_
        refine ev_iconst (v := nI 2) rfl hC d_Law_law_389 ?_
        refine ev_iadd hC d_Law_law_390 ?_
        rw [nI_add]
        refine ev_sld hC hX d_Law_law_391 (by omega) (by omega) ?_
        refine cv_Mod1 hC d_Law_law_392 (c2) mi_Mod_of ml_Law_38 im_Mod_of se_Mod_of rfl ⟨Nat.le_of_ble_eq_true rfl, Nat.le_of_ble_eq_true rfl⟩ ⟨Nat.le_of_ble_eq_true rfl, Nat.le_of_ble_eq_true rfl⟩ rfl rfl (Nat.le_of_ble_eq_true rfl)  ?_
        refine ev_icmp_eq 1466 hC d_Law_law_395 rfl (fun _ => ?_) (fun h => absurd rfl h)
        refine ev_iinc rfl (by decide) (nI_6 i) hC d_Law_law_1466 ?_
        refine ev_goto 18 hC d_Law_law_1469 rfl ?_
        exact ih (i + 6) M2 hr (by omega) (by omega)
      · obtain ⟨v, M1, M2, c1, c2, hr⟩ := L_set (G := G) (M := M) (p := xs (i + 1)) (w := xs (i + 2)) (v := xs (i + 3)) h
        refine ev_aload_n rfl hC d_Law_law_400 ?_
        refine ev_aload_n rfl hC d_Law_law_401 ?_
        refine ev_iload_n rfl hC d_Law_law_402 ?_
        refine ev_iconst (v := nI 1) rfl hC d_Law_law_403 ?_
        refine ev_iadd hC d_Law_law_404 ?_
        rw [nI_add]
        refine ev_sld hC hX d_Law_law_405 (by omega) (by omega) ?_
        refine ev_aload_n rfl hC d_Law_law_406 ?_
        refine ev_iload_n rfl hC d_Law_law_407 ?_
        refine ev_iconst (v := nI 2) rfl hC d_Law_law_408 ?_
        refine ev_iadd hC d_Law_law_409 ?_
        rw [nI_add]
        refine ev_sld hC hX d_Law_law_410 (by omega) (by omega) ?_
        refine ev_aload_n rfl hC d_Law_law_411 ?_
        refine ev_iload_n rfl hC d_Law_law_412 ?_
        refine ev_iconst (v := nI 3) rfl hC d_Law_law_413 ?_
        refine ev_iadd hC d_Law_law_414 ?_
        rw [nI_add]
        refine ev_sld hC hX d_Law_law_415 (by omega) (by omega) ?_
        refine cv_Day1 hC d_Law_law_416 (c1) mi_Day_set ml_Law_39 im_Day_set se_Day_set rfl ⟨Nat.le_of_ble_eq_true rfl, Nat.le_of_ble_eq_true rfl⟩ ⟨Nat.le_of_ble_eq_true rfl, Nat.le_of_ble_eq_true rfl⟩ rfl rfl (Nat.le_of_ble_eq_true rfl)  ?_
        refine ev_aload_n rfl hC d_Law_law_419 ?_
        refine ev_aload_n rfl hC d_Law_law_420 ?_
        refine ev_iload_n rfl hC d_Law_law_421 ?_
        refine ev_iconst (v := nI 1) rfl hC d_Law_law_422 ?_
        refine ev_iadd hC d_Law_law_423 ?_
        rw [nI_add]
        refine ev_sld hC hX d_Law_law_424 (by omega) (by omega) ?_
        refine ev_aload_n rfl hC d_Law_law_425 ?_
        refine ev_iload_n rfl hC d_Law_law_426 ?_
        refine ev_iconst (v := nI 2) rfl hC d_Law_law_427 ?_
        refine ev_iadd hC d_Law_law_428 ?_
        rw [nI_add]
        refine ev_sld hC hX d_Law_law_429 (by omega) (by omega) ?_
        refine ev_aload_n rfl hC d_Law_law_430 ?_
        refine ev_iload_n rfl hC d_Law_law_431 ?_
        refine ev_iconst (v := nI 3) rfl hC d_Law_law_432 ?_
        refine ev_iadd hC d_Law_law_433 ?_
        rw [nI_add]
        refine ev_sld hC hX d_Law_law_434 (by omega) (by omega) ?_
        refine cv_Mod1 hC d_Law_law_435 (c2) mi_Mod_set ml_Law_43 im_Mod_set se_Mod_set rfl ⟨Nat.le_of_ble_eq_true rfl, Nat.le_of_ble_eq_true rfl⟩ ⟨Nat.le_of_ble_eq_true rfl, Nat.le_of_ble_eq_true rfl⟩ rfl rfl (Nat.le_of_ble_eq_true rfl)  ?_
        refine ev_icmp_eq 1466 hC d_Law_law_438 rfl (fun _ => ?_) (fun h => absurd rfl h)
        refine ev_iinc rfl (by decide) (nI_6 i) hC d_Law_law_1466 ?_
        refine ev_goto 18 hC d_Law_law_1469 rfl ?_
        exact ih (i + 6) M2 hr (by omega) (by omega)
      · obtain ⟨v, M1, M2, c1, c2, hr⟩ := L_turn (G := G) (M := M) (p := xs (i + 1)) (k := xs (i + 2)) h
        refine ev_aload_n rfl hC d_Law_law_443 ?_
        refine ev_aload_n rfl hC d_Law_law_444 ?_
        refine ev_iload_n rfl hC d_Law_law_445 ?_
        refine ev_iconst (v := nI 1) rfl hC d_Law_law_446 ?_
        refine ev_iadd hC d_Law_law_447 ?_
        rw [nI_add]
        refine ev_sld hC hX d_Law_law_448 (by omega) (by omega) ?_
        refine ev_aload_n rfl hC d_Law_law_449 ?_
        refine ev_iload_n rfl hC d_Law_law_450 ?_
        refine ev_iconst (v := nI 2) rfl hC d_Law_law_451 ?_
        refine ev_iadd hC d_Law_law_452 ?_
        rw [nI_add]
        refine ev_sld hC hX d_Law_law_453 (by omega) (by omega) ?_
        refine cv_Day1 hC d_Law_law_454 (c1) mi_Day_turn ml_Law_44 im_Day_turn se_Day_turn rfl ⟨Nat.le_of_ble_eq_true rfl, Nat.le_of_ble_eq_true rfl⟩ ⟨Nat.le_of_ble_eq_true rfl, Nat.le_of_ble_eq_true rfl⟩ rfl rfl (Nat.le_of_ble_eq_true rfl)  ?_
        refine ev_aload_n rfl hC d_Law_law_457 ?_
        refine ev_aload_n rfl hC d_Law_law_458 ?_
        refine ev_iload_n rfl hC d_Law_law_459 ?_
        refine ev_iconst (v := nI 1) rfl hC d_Law_law_460 ?_
        refine ev_iadd hC d_Law_law_461 ?_
        rw [nI_add]
        refine ev_sld hC hX d_Law_law_462 (by omega) (by omega) ?_
        refine ev_aload_n rfl hC d_Law_law_463 ?_
        refine ev_iload_n rfl hC d_Law_law_464 ?_
        refine ev_iconst (v := nI 2) rfl hC d_Law_law_465 ?_
        refine ev_iadd hC d_Law_law_466 ?_
        rw [nI_add]
        refine ev_sld hC hX d_Law_law_467 (by omega) (by omega) ?_
        refine cv_Mod1 hC d_Law_law_468 (c2) mi_Mod_turn ml_Law_47 im_Mod_turn se_Mod_turn rfl ⟨Nat.le_of_ble_eq_true rfl, Nat.le_of_ble_eq_true rfl⟩ ⟨Nat.le_of_ble_eq_true rfl, Nat.le_of_ble_eq_true rfl⟩ rfl rfl (Nat.le_of_ble_eq_true rfl)  ?_
        refine ev_icmp_eq 1466 hC d_Law_law_471 rfl (fun _ => ?_) (fun h => absurd rfl h)
        refine ev_iinc rfl (by decide) (nI_6 i) hC d_Law_law_1466 ?_
        refine ev_goto 18 hC d_Law_law_1469 rfl ?_
        exact ih (i + 6) M2 hr (by omega) (by omega)
      · obtain ⟨v, M1, M2, c1, c2, hr⟩ := L_as (G := G) (M := M) (p := xs (i + 1)) (k := xs (i + 2)) h
        refine ev_aload_n rfl hC d_Law_law_476 ?_
        refine ev_aload_n rfl hC d_Law_law_477 ?_
        refine ev_iload_n rfl hC d_Law_law_478 ?_
        refine ev_iconst (v := nI 1) rfl hC d_Law_law_479 ?_
        refine ev_iadd hC d_Law_law_480 ?_
        rw [nI_add]
        refine ev_sld hC hX d_Law_law_481 (by omega) (by omega) ?_
        refine ev_aload_n rfl hC d_Law_law_482 ?_
        refine ev_iload_n rfl hC d_Law_law_483 ?_
        refine ev_iconst (v := nI 2) rfl hC d_Law_law_484 ?_
        refine ev_iadd hC d_Law_law_485 ?_
        rw [nI_add]
        refine ev_sld hC hX d_Law_law_486 (by omega) (by omega) ?_
        refine cv_Day1 hC d_Law_law_487 (c1) mi_Day_as ml_Law_48 im_Day_as se_Day_as rfl ⟨Nat.le_of_ble_eq_true rfl, Nat.le_of_ble_eq_true rfl⟩ ⟨Nat.le_of_ble_eq_true rfl, Nat.le_of_ble_eq_true rfl⟩ rfl rfl (Nat.le_of_ble_eq_true rfl)  ?_
        refine ev_aload_n rfl hC d_Law_law_490 ?_
        refine ev_aload_n rfl hC d_Law_law_491 ?_
        refine ev_iload_n rfl hC d_Law_law_492 ?_
        refine ev_iconst (v := nI 1) rfl hC d_Law_law_493 ?_
        refine ev_iadd hC d_Law_law_494 ?_
        rw [nI_add]
        refine ev_sld hC hX d_Law_law_495 (by omega) (by omega) ?_
        refine ev_aload_n rfl hC d_Law_law_496 ?_
        refine ev_iload_n rfl hC d_Law_law_497 ?_
        refine ev_iconst (v := nI 2) rfl hC d_Law_law_498 ?_
        refine ev_iadd hC d_Law_law_499 ?_
        rw [nI_add]
        refine ev_sld hC hX d_Law_law_500 (by omega) (by omega) ?_
        refine cv_Mod1 hC d_Law_law_501 (c2) mi_Mod_as ml_Law_51 im_Mod_as se_Mod_as rfl ⟨Nat.le_of_ble_eq_true rfl, Nat.le_of_ble_eq_true rfl⟩ ⟨Nat.le_of_ble_eq_true rfl, Nat.le_of_ble_eq_true rfl⟩ rfl rfl (Nat.le_of_ble_eq_true rfl)  ?_
        refine ev_icmp_eq 1466 hC d_Law_law_504 rfl (fun _ => ?_) (fun h => absurd rfl h)
        refine ev_iinc rfl (by decide) (nI_6 i) hC d_Law_law_1466 ?_
        refine ev_goto 18 hC d_Law_law_1469 rfl ?_
        exact ih (i + 6) M2 hr (by omega) (by omega)
      · obtain ⟨v, M1, M2, c1, c2, hr⟩ := L_gains (G := G) (M := M) (p := xs (i + 1)) (w := xs (i + 2)) (k := xs (i + 3)) h
        refine ev_aload_n rfl hC d_Law_law_509 ?_
        refine ev_aload_n rfl hC d_Law_law_510 ?_
        refine ev_iload_n rfl hC d_Law_law_511 ?_
        refine ev_iconst (v := nI 1) rfl hC d_Law_law_512 ?_
        refine ev_iadd hC d_Law_law_513 ?_
        rw [nI_add]
        refine ev_sld hC hX d_Law_law_514 (by omega) (by omega) ?_
        refine ev_aload_n rfl hC d_Law_law_515 ?_
        refine ev_iload_n rfl hC d_Law_law_516 ?_
        refine ev_iconst (v := nI 2) rfl hC d_Law_law_517 ?_
        refine ev_iadd hC d_Law_law_518 ?_
        rw [nI_add]
        refine ev_sld hC hX d_Law_law_519 (by omega) (by omega) ?_
        refine ev_aload_n rfl hC d_Law_law_520 ?_
        refine ev_iload_n rfl hC d_Law_law_521 ?_
        refine ev_iconst (v := nI 3) rfl hC d_Law_law_522 ?_
        refine ev_iadd hC d_Law_law_523 ?_
        rw [nI_add]
        refine ev_sld hC hX d_Law_law_524 (by omega) (by omega) ?_
        refine cv_Day1 hC d_Law_law_525 (c1) mi_Day_gains ml_Law_52 im_Day_gains se_Day_gains rfl ⟨Nat.le_of_ble_eq_true rfl, Nat.le_of_ble_eq_true rfl⟩ ⟨Nat.le_of_ble_eq_true rfl, Nat.le_of_ble_eq_true rfl⟩ rfl rfl (Nat.le_of_ble_eq_true rfl)  ?_
        refine ev_aload_n rfl hC d_Law_law_528 ?_
        refine ev_aload_n rfl hC d_Law_law_529 ?_
        refine ev_iload_n rfl hC d_Law_law_530 ?_
        refine ev_iconst (v := nI 1) rfl hC d_Law_law_531 ?_
        refine ev_iadd hC d_Law_law_532 ?_
        rw [nI_add]
        refine ev_sld hC hX d_Law_law_533 (by omega) (by omega) ?_
        refine ev_aload_n rfl hC d_Law_law_534 ?_
        refine ev_iload_n rfl hC d_Law_law_535 ?_
        refine ev_iconst (v := nI 2) rfl hC d_Law_law_536 ?_
        refine ev_iadd hC d_Law_law_537 ?_
        rw [nI_add]
        refine ev_sld hC hX d_Law_law_538 (by omega) (by omega) ?_
        refine ev_aload_n rfl hC d_Law_law_539 ?_
        refine ev_iload_n rfl hC d_Law_law_540 ?_
        refine ev_iconst (v := nI 3) rfl hC d_Law_law_541 ?_
        refine ev_iadd hC d_Law_law_542 ?_
        rw [nI_add]
        refine ev_sld hC hX d_Law_law_543 (by omega) (by omega) ?_
        refine cv_Mod1 hC d_Law_law_544 (c2) mi_Mod_gains ml_Law_55 im_Mod_gains se_Mod_gains rfl ⟨Nat.le_of_ble_eq_true rfl, Nat.le_of_ble_eq_true rfl⟩ ⟨Nat.le_of_ble_eq_true rfl, Nat.le_of_ble_eq_true rfl⟩ rfl rfl (Nat.le_of_ble_eq_true rfl)  ?_
        refine ev_icmp_eq 1466 hC d_Law_law_547 rfl (fun _ => ?_) (fun h => absurd rfl h)
        refine ev_iinc rfl (by decide) (nI_6 i) hC d_Law_law_1466 ?_
        refine ev_goto 18 hC d_Law_law_1469 rfl ?_
        exact ih (i + 6) M2 hr (by omega) (by omega)
      · obtain ⟨v, M1, M2, c1, c2, hr⟩ := L_cross (G := G) (M := M) (p := xs (i + 1)) h
        refine ev_aload_n rfl hC d_Law_law_552 ?_
        refine ev_aload_n rfl hC d_Law_law_553 ?_
        refine ev_iload_n rfl hC d_Law_law_554 ?_
        refine ev_iconst (v := nI 1) rfl hC d_Law_law_555 ?_
        refine ev_iadd hC d_Law_law_556 ?_
        rw [nI_add]
        refine ev_sld hC hX d_Law_law_557 (by omega) (by omega) ?_
        refine cv_Day1 hC d_Law_law_558 (c1) mi_Day_cross ml_Law_56 im_Day_cross se_Day_cross rfl ⟨Nat.le_of_ble_eq_true rfl, Nat.le_of_ble_eq_true rfl⟩ ⟨Nat.le_of_ble_eq_true rfl, Nat.le_of_ble_eq_true rfl⟩ rfl rfl (Nat.le_of_ble_eq_true rfl)  ?_
        refine ev_aload_n rfl hC d_Law_law_561 ?_
        refine ev_aload_n rfl hC d_Law_law_562 ?_
        refine ev_iload_n rfl hC d_Law_law_563 ?_
        refine ev_iconst (v := nI 1) rfl hC d_Law_law_564 ?_
        refine ev_iadd hC d_Law_law_565 ?_
        rw [nI_add]
        refine ev_sld hC hX d_Law_law_566 (by omega) (by omega) ?_
        refine cv_Mod1 hC d_Law_law_567 (c2) mi_Mod_cross ml_Law_59 im_Mod_cross se_Mod_cross rfl ⟨Nat.le_of_ble_eq_true rfl, Nat.le_of_ble_eq_true rfl⟩ ⟨Nat.le_of_ble_eq_true rfl, Nat.le_of_ble_eq_true rfl⟩ rfl rfl (Nat.le_of_ble_eq_true rfl)  ?_
        refine ev_icmp_eq 1466 hC d_Law_law_570 rfl (fun _ => ?_) (fun h => absurd rfl h)
        refine ev_iinc rfl (by decide) (nI_6 i) hC d_Law_law_1466 ?_
        refine ev_goto 18 hC d_Law_law_1469 rfl ?_
        exact ih (i + 6) M2 hr (by omega) (by omega)
      · obtain ⟨v, M1, M2, c1, c2, hr⟩ := L_tells (G := G) (M := M) (p := xs (i + 1)) (q := xs (i + 2)) h
        refine ev_aload_n rfl hC d_Law_law_575 ?_
        refine ev_aload_n rfl hC d_Law_law_576 ?_
        refine ev_iload_n rfl hC d_Law_law_577 ?_
        refine ev_iconst (v := nI 1) rfl hC d_Law_law_578 ?_
        refine ev_iadd hC d_Law_law_579 ?_
        rw [nI_add]
        refine ev_sld hC hX d_Law_law_580 (by omega) (by omega) ?_
        refine ev_aload_n rfl hC d_Law_law_581 ?_
        refine ev_iload_n rfl hC d_Law_law_582 ?_
        refine ev_iconst (v := nI 2) rfl hC d_Law_law_583 ?_
        refine ev_iadd hC d_Law_law_584 ?_
        rw [nI_add]
        refine ev_sld hC hX d_Law_law_585 (by omega) (by omega) ?_
        refine cv_Day1 hC d_Law_law_586 (c1) mi_Day_tells ml_Law_60 im_Day_tells se_Day_tells rfl ⟨Nat.le_of_ble_eq_true rfl, Nat.le_of_ble_eq_true rfl⟩ ⟨Nat.le_of_ble_eq_true rfl, Nat.le_of_ble_eq_true rfl⟩ rfl rfl (Nat.le_of_ble_eq_true rfl)  ?_
        refine ev_aload_n rfl hC d_Law_law_589 ?_
        refine ev_aload_n rfl hC d_Law_law_590 ?_
        refine ev_iload_n rfl hC d_Law_law_591 ?_
        refine ev_iconst (v := nI 1) rfl hC d_Law_law_592 ?_
        refine ev_iadd hC d_Law_law_593 ?_
        rw [nI_add]
        refine ev_sld hC hX d_Law_law_594 (by omega) (by omega) ?_
        refine ev_aload_n rfl hC d_Law_law_595 ?_
        refine ev_iload_n rfl hC d_Law_law_596 ?_
        refine ev_iconst (v := nI 2) rfl hC d_Law_law_597 ?_
        refine ev_iadd hC d_Law_law_598 ?_
        rw [nI_add]
        refine ev_sld hC hX d_Law_law_599 (by omega) (by omega) ?_
        refine cv_Mod1 hC d_Law_law_600 (c2) mi_Mod_tells ml_Law_63 im_Mod_tells se_Mod_tells rfl ⟨Nat.le_of_ble_eq_true rfl, Nat.le_of_ble_eq_true rfl⟩ ⟨Nat.le_of_ble_eq_true rfl, Nat.le_of_ble_eq_true rfl⟩ rfl rfl (Nat.le_of_ble_eq_true rfl)  ?_
        refine ev_icmp_eq 1466 hC d_Law_law_603 rfl (fun _ => ?_) (fun h => absurd rfl h)
        refine ev_iinc rfl (by decide) (nI_6 i) hC d_Law_law_1466 ?_
        refine ev_goto 18 hC d_Law_law_1469 rfl ?_
        exact ih (i + 6) M2 hr (by omega) (by omega)
      · obtain ⟨v, M1, M2, c1, c2, hr⟩ := L_hours (G := G) (M := M) (n := xs (i + 1)) h
        refine ev_aload_n rfl hC d_Law_law_608 ?_
        refine ev_aload_n rfl hC d_Law_law_609 ?_
        refine ev_iload_n rfl hC d_Law_law_610 ?_
        refine ev_iconst (v := nI 1) rfl hC d_Law_law_611 ?_
        refine ev_iadd hC d_Law_law_612 ?_
        rw [nI_add]
        refine ev_sld hC hX d_Law_law_613 (by omega) (by omega) ?_
        refine cv_Day1 hC d_Law_law_614 (c1) mi_Day_hours ml_Law_64 im_Day_hours se_Day_hours rfl ⟨Nat.le_of_ble_eq_true rfl, Nat.le_of_ble_eq_true rfl⟩ ⟨Nat.le_of_ble_eq_true rfl, Nat.le_of_ble_eq_true rfl⟩ rfl rfl (Nat.le_of_ble_eq_true rfl)  ?_
        refine ev_aload_n rfl hC d_Law_law_617 ?_
        refine ev_aload_n rfl hC d_Law_law_618 ?_
        refine ev_iload_n rfl hC d_Law_law_619 ?_
        refine ev_iconst (v := nI 1) rfl hC d_Law_law_620 ?_
        refine ev_iadd hC d_Law_law_621 ?_
        rw [nI_add]
        refine ev_sld hC hX d_Law_law_622 (by omega) (by omega) ?_
        refine cv_Mod1 hC d_Law_law_623 (c2) mi_Mod_hours ml_Law_67 im_Mod_hours se_Mod_hours rfl ⟨Nat.le_of_ble_eq_true rfl, Nat.le_of_ble_eq_true rfl⟩ ⟨Nat.le_of_ble_eq_true rfl, Nat.le_of_ble_eq_true rfl⟩ rfl rfl (Nat.le_of_ble_eq_true rfl)  ?_
        refine ev_icmp_eq 1466 hC d_Law_law_626 rfl (fun _ => ?_) (fun h => absurd rfl h)
        refine ev_iinc rfl (by decide) (nI_6 i) hC d_Law_law_1466 ?_
        refine ev_goto 18 hC d_Law_law_1469 rfl ?_
        exact ih (i + 6) M2 hr (by omega) (by omega)
      · obtain ⟨v, M1, M2, c1, c2, hr⟩ := L_now (G := G) (M := M) (w := xs (i + 1)) h
        refine ev_aload_n rfl hC d_Law_law_631 ?_
        refine ev_aload_n rfl hC d_Law_law_632 ?_
        refine ev_iload_n rfl hC d_Law_law_633 ?_
        refine ev_iconst (v := nI 1) rfl hC d_Law_law_634 ?_
        refine ev_iadd hC d_Law_law_635 ?_
        rw [nI_add]
        refine ev_sld hC hX d_Law_law_636 (by omega) (by omega) ?_
        refine cv_Day1 hC d_Law_law_637 (c1) mi_Day_now ml_Law_68 im_Day_now se_Day_now rfl ⟨Nat.le_of_ble_eq_true rfl, Nat.le_of_ble_eq_true rfl⟩ ⟨Nat.le_of_ble_eq_true rfl, Nat.le_of_ble_eq_true rfl⟩ rfl rfl (Nat.le_of_ble_eq_true rfl)  ?_
        refine ev_aload_n rfl hC d_Law_law_640 ?_
        refine ev_aload_n rfl hC d_Law_law_641 ?_
        refine ev_iload_n rfl hC d_Law_law_642 ?_
        refine ev_iconst (v := nI 1) rfl hC d_Law_law_643 ?_
        refine ev_iadd hC d_Law_law_644 ?_
        rw [nI_add]
        refine ev_sld hC hX d_Law_law_645 (by omega) (by omega) ?_
        refine cv_Mod1 hC d_Law_law_646 (c2) mi_Mod_now ml_Law_71 im_Mod_now se_Mod_now rfl ⟨Nat.le_of_ble_eq_true rfl, Nat.le_of_ble_eq_true rfl⟩ ⟨Nat.le_of_ble_eq_true rfl, Nat.le_of_ble_eq_true rfl⟩ rfl rfl (Nat.le_of_ble_eq_true rfl)  ?_
        refine ev_icmp_eq 1466 hC d_Law_law_649 rfl (fun _ => ?_) (fun h => absurd rfl h)
        refine ev_iinc rfl (by decide) (nI_6 i) hC d_Law_law_1466 ?_
        refine ev_goto 18 hC d_Law_law_1469 rfl ?_
        exact ih (i + 6) M2 hr (by omega) (by omega)
      · obtain ⟨v, M1, M2, c1, c2, hr⟩ := L_on (G := G) (M := M) (p := xs (i + 1)) (n := xs (i + 2)) (w := xs (i + 3)) h
        refine ev_aload_n rfl hC d_Law_law_654 ?_
        refine ev_aload_n rfl hC d_Law_law_655 ?_
        refine ev_iload_n rfl hC d_Law_law_656 ?_
        refine ev_iconst (v := nI 1) rfl hC d_Law_law_657 ?_
        refine ev_iadd hC d_Law_law_658 ?_
        rw [nI_add]
        refine ev_sld hC hX d_Law_law_659 (by omega) (by omega) ?_
        refine ev_aload_n rfl hC d_Law_law_660 ?_
        refine ev_iload_n rfl hC d_Law_law_661 ?_
        refine ev_iconst (v := nI 2) rfl hC d_Law_law_662 ?_
        refine ev_iadd hC d_Law_law_663 ?_
        rw [nI_add]
        refine ev_sld hC hX d_Law_law_664 (by omega) (by omega) ?_
        refine ev_aload_n rfl hC d_Law_law_665 ?_
        refine ev_iload_n rfl hC d_Law_law_666 ?_
        refine ev_iconst (v := nI 3) rfl hC d_Law_law_667 ?_
        refine ev_iadd hC d_Law_law_668 ?_
        rw [nI_add]
        refine ev_sld hC hX d_Law_law_669 (by omega) (by omega) ?_
        refine cv_Day1 hC d_Law_law_670 (c1) mi_Day_on ml_Law_72 im_Day_on se_Day_on rfl ⟨Nat.le_of_ble_eq_true rfl, Nat.le_of_ble_eq_true rfl⟩ ⟨Nat.le_of_ble_eq_true rfl, Nat.le_of_ble_eq_true rfl⟩ rfl rfl (Nat.le_of_ble_eq_true rfl)  ?_
        refine ev_aload_n rfl hC d_Law_law_673 ?_
        refine ev_aload_n rfl hC d_Law_law_674 ?_
        refine ev_iload_n rfl hC d_Law_law_675 ?_
        refine ev_iconst (v := nI 1) rfl hC d_Law_law_676 ?_
        refine ev_iadd hC d_Law_law_677 ?_
        rw [nI_add]
        refine ev_sld hC hX d_Law_law_678 (by omega) (by omega) ?_
        refine ev_aload_n rfl hC d_Law_law_679 ?_
        refine ev_iload_n rfl hC d_Law_law_680 ?_
        refine ev_iconst (v := nI 2) rfl hC d_Law_law_681 ?_
        refine ev_iadd hC d_Law_law_682 ?_
        rw [nI_add]
        refine ev_sld hC hX d_Law_law_683 (by omega) (by omega) ?_
        refine ev_aload_n rfl hC d_Law_law_684 ?_
        refine ev_iload_n rfl hC d_Law_law_685 ?_
        refine ev_iconst (v := nI 3) rfl hC d_Law_law_686 ?_
        refine ev_iadd hC d_Law_law_687 ?_
        rw [nI_add]
        refine ev_sld hC hX d_Law_law_688 (by omega) (by omega) ?_
        refine cv_Mod1 hC d_Law_law_689 (c2) mi_Mod_on ml_Law_75 im_Mod_on se_Mod_on rfl ⟨Nat.le_of_ble_eq_true rfl, Nat.le_of_ble_eq_true rfl⟩ ⟨Nat.le_of_ble_eq_true rfl, Nat.le_of_ble_eq_true rfl⟩ rfl rfl (Nat.le_of_ble_eq_true rfl)  ?_
        refine ev_icmp_eq 1466 hC d_Law_law_692 rfl (fun _ => ?_) (fun h => absurd rfl h)
        refine ev_iinc rfl (by decide) (nI_6 i) hC d_Law_law_1466 ?_
        refine ev_goto 18 hC d_Law_law_1469 rfl ?_
        exact ih (i + 6) M2 hr (by omega) (by omega)
      · obtain ⟨v, M1, M2, c1, c2, hr⟩ := L_learns (G := G) (M := M) (p := xs (i + 1)) (e := xs (i + 2)) h
        refine ev_aload_n rfl hC d_Law_law_697 ?_
        refine ev_aload_n rfl hC d_Law_law_698 ?_
        refine ev_iload_n rfl hC d_Law_law_699 ?_
        refine ev_iconst (v := nI 1) rfl hC d_Law_law_700 ?_
        refine ev_iadd hC d_Law_law_701 ?_
        rw [nI_add]
        refine ev_sld hC hX d_Law_law_702 (by omega) (by omega) ?_
        refine ev_aload_n rfl hC d_Law_law_703 ?_
        refine ev_iload_n rfl hC d_Law_law_704 ?_
        refine ev_iconst (v := nI 2) rfl hC d_Law_law_705 ?_
        refine ev_iadd hC d_Law_law_706 ?_
        rw [nI_add]
        refine ev_sld hC hX d_Law_law_707 (by omega) (by omega) ?_
        refine cv_Day1 hC d_Law_law_708 (c1) mi_Day_learns ml_Law_76 im_Day_learns se_Day_learns rfl ⟨Nat.le_of_ble_eq_true rfl, Nat.le_of_ble_eq_true rfl⟩ ⟨Nat.le_of_ble_eq_true rfl, Nat.le_of_ble_eq_true rfl⟩ rfl rfl (Nat.le_of_ble_eq_true rfl)  ?_
        refine ev_aload_n rfl hC d_Law_law_711 ?_
        refine ev_aload_n rfl hC d_Law_law_712 ?_
        refine ev_iload_n rfl hC d_Law_law_713 ?_
        refine ev_iconst (v := nI 1) rfl hC d_Law_law_714 ?_
        refine ev_iadd hC d_Law_law_715 ?_
        rw [nI_add]
        refine ev_sld hC hX d_Law_law_716 (by omega) (by omega) ?_
        refine ev_aload_n rfl hC d_Law_law_717 ?_
        refine ev_iload_n rfl hC d_Law_law_718 ?_
        refine ev_iconst (v := nI 2) rfl hC d_Law_law_719 ?_
        refine ev_iadd hC d_Law_law_720 ?_
        rw [nI_add]
        refine ev_sld hC hX d_Law_law_721 (by omega) (by omega) ?_
        refine cv_Mod1 hC d_Law_law_722 (c2) mi_Mod_learns ml_Law_79 im_Mod_learns se_Mod_learns rfl ⟨Nat.le_of_ble_eq_true rfl, Nat.le_of_ble_eq_true rfl⟩ ⟨Nat.le_of_ble_eq_true rfl, Nat.le_of_ble_eq_true rfl⟩ rfl rfl (Nat.le_of_ble_eq_true rfl)  ?_
        refine ev_icmp_eq 1466 hC d_Law_law_725 rfl (fun _ => ?_) (fun h => absurd rfl h)
        refine ev_iinc rfl (by decide) (nI_6 i) hC d_Law_law_1466 ?_
        refine ev_goto 18 hC d_Law_law_1469 rfl ?_
        exact ih (i + 6) M2 hr (by omega) (by omega)
      · obtain ⟨v, M1, M2, c1, c2, hr⟩ := L_first (G := G) (M := M) (e := xs (i + 1)) h
        refine ev_aload_n rfl hC d_Law_law_730 ?_
        refine ev_aload_n rfl hC d_Law_law_731 ?_
        refine ev_iload_n rfl hC d_Law_law_732 ?_
        refine ev_iconst (v := nI 1) rfl hC d_Law_law_733 ?_
        refine ev_iadd hC d_Law_law_734 ?_
        rw [nI_add]
        refine ev_sld hC hX d_Law_law_735 (by omega) (by omega) ?_
        refine cv_Day1 hC d_Law_law_736 (c1) mi_Day_first ml_Law_80 im_Day_first se_Day_first rfl ⟨Nat.le_of_ble_eq_true rfl, Nat.le_of_ble_eq_true rfl⟩ ⟨Nat.le_of_ble_eq_true rfl, Nat.le_of_ble_eq_true rfl⟩ rfl rfl (Nat.le_of_ble_eq_true rfl)  ?_
        refine ev_aload_n rfl hC d_Law_law_739 ?_
        refine ev_aload_n rfl hC d_Law_law_740 ?_
        refine ev_iload_n rfl hC d_Law_law_741 ?_
        refine ev_iconst (v := nI 1) rfl hC d_Law_law_742 ?_
        refine ev_iadd hC d_Law_law_743 ?_
        rw [nI_add]
        refine ev_sld hC hX d_Law_law_744 (by omega) (by omega) ?_
        refine cv_Mod1 hC d_Law_law_745 (c2) mi_Mod_first ml_Law_83 im_Mod_first se_Mod_first rfl ⟨Nat.le_of_ble_eq_true rfl, Nat.le_of_ble_eq_true rfl⟩ ⟨Nat.le_of_ble_eq_true rfl, Nat.le_of_ble_eq_true rfl⟩ rfl rfl (Nat.le_of_ble_eq_true rfl)  ?_
        refine ev_icmp_eq 1466 hC d_Law_law_748 rfl (fun _ => ?_) (fun h => absurd rfl h)
        refine ev_iinc rfl (by decide) (nI_6 i) hC d_Law_law_1466 ?_
        refine ev_goto 18 hC d_Law_law_1469 rfl ?_
        exact ih (i + 6) M2 hr (by omega) (by omega)
      · obtain ⟨v, M1, M2, c1, c2, hr⟩ := L_met (G := G) (M := M) (n := xs (i + 1)) h
        refine ev_aload_n rfl hC d_Law_law_753 ?_
        refine ev_aload_n rfl hC d_Law_law_754 ?_
        refine ev_iload_n rfl hC d_Law_law_755 ?_
        refine ev_iconst (v := nI 1) rfl hC d_Law_law_756 ?_
        refine ev_iadd hC d_Law_law_757 ?_
        rw [nI_add]
        refine ev_sld hC hX d_Law_law_758 (by omega) (by omega) ?_
        refine cv_Day1 hC d_Law_law_759 (c1) mi_Day_met ml_Law_84 im_Day_met se_Day_met rfl ⟨Nat.le_of_ble_eq_true rfl, Nat.le_of_ble_eq_true rfl⟩ ⟨Nat.le_of_ble_eq_true rfl, Nat.le_of_ble_eq_true rfl⟩ rfl rfl (Nat.le_of_ble_eq_true rfl)  ?_
        refine ev_aload_n rfl hC d_Law_law_762 ?_
        refine ev_aload_n rfl hC d_Law_law_763 ?_
        refine ev_iload_n rfl hC d_Law_law_764 ?_
        refine ev_iconst (v := nI 1) rfl hC d_Law_law_765 ?_
        refine ev_iadd hC d_Law_law_766 ?_
        rw [nI_add]
        refine ev_sld hC hX d_Law_law_767 (by omega) (by omega) ?_
        refine cv_Mod1 hC d_Law_law_768 (c2) mi_Mod_met ml_Law_87 im_Mod_met se_Mod_met rfl ⟨Nat.le_of_ble_eq_true rfl, Nat.le_of_ble_eq_true rfl⟩ ⟨Nat.le_of_ble_eq_true rfl, Nat.le_of_ble_eq_true rfl⟩ rfl rfl (Nat.le_of_ble_eq_true rfl)  ?_
        refine ev_icmp_eq 1466 hC d_Law_law_771 rfl (fun _ => ?_) (fun h => absurd rfl h)
        refine ev_iinc rfl (by decide) (nI_6 i) hC d_Law_law_1466 ?_
        refine ev_goto 18 hC d_Law_law_1469 rfl ?_
        exact ih (i + 6) M2 hr (by omega) (by omega)
      · obtain ⟨v, M1, M2, c1, c2, hr⟩ := L_broke (G := G) (M := M) (p := xs (i + 1)) h
        refine ev_aload_n rfl hC d_Law_law_776 ?_
        refine ev_aload_n rfl hC d_Law_law_777 ?_
        refine ev_iload_n rfl hC d_Law_law_778 ?_
        refine ev_iconst (v := nI 1) rfl hC d_Law_law_779 ?_
        refine ev_iadd hC d_Law_law_780 ?_
        rw [nI_add]
        refine ev_sld hC hX d_Law_law_781 (by omega) (by omega) ?_
        refine cv_Day1 hC d_Law_law_782 (c1) mi_Day_broke ml_Law_88 im_Day_broke se_Day_broke rfl ⟨Nat.le_of_ble_eq_true rfl, Nat.le_of_ble_eq_true rfl⟩ ⟨Nat.le_of_ble_eq_true rfl, Nat.le_of_ble_eq_true rfl⟩ rfl rfl (Nat.le_of_ble_eq_true rfl)  ?_
        refine ev_aload_n rfl hC d_Law_law_785 ?_
        refine ev_aload_n rfl hC d_Law_law_786 ?_
        refine ev_iload_n rfl hC d_Law_law_787 ?_
        refine ev_iconst (v := nI 1) rfl hC d_Law_law_788 ?_
        refine ev_iadd hC d_Law_law_789 ?_
        rw [nI_add]
        refine ev_sld hC hX d_Law_law_790 (by omega) (by omega) ?_
        refine cv_Mod1 hC d_Law_law_791 (c2) mi_Mod_broke ml_Law_91 im_Mod_broke se_Mod_broke rfl ⟨Nat.le_of_ble_eq_true rfl, Nat.le_of_ble_eq_true rfl⟩ ⟨Nat.le_of_ble_eq_true rfl, Nat.le_of_ble_eq_true rfl⟩ rfl rfl (Nat.le_of_ble_eq_true rfl)  ?_
        refine ev_icmp_eq 1466 hC d_Law_law_794 rfl (fun _ => ?_) (fun h => absurd rfl h)
        refine ev_iinc rfl (by decide) (nI_6 i) hC d_Law_law_1466 ?_
        refine ev_goto 18 hC d_Law_law_1469 rfl ?_
        exact ih (i + 6) M2 hr (by omega) (by omega)
      · obtain ⟨v, M1, M2, c1, c2, hr⟩ := L_clocks (G := G) (M := M) (p := xs (i + 1)) (n := xs (i + 2)) h
        refine ev_aload_n rfl hC d_Law_law_799 ?_
        refine ev_aload_n rfl hC d_Law_law_800 ?_
        refine ev_iload_n rfl hC d_Law_law_801 ?_
        refine ev_iconst (v := nI 1) rfl hC d_Law_law_802 ?_
        refine ev_iadd hC d_Law_law_803 ?_
        rw [nI_add]
        refine ev_sld hC hX d_Law_law_804 (by omega) (by omega) ?_
        refine ev_aload_n rfl hC d_Law_law_805 ?_
        refine ev_iload_n rfl hC d_Law_law_806 ?_
        refine ev_iconst (v := nI 2) rfl hC d_Law_law_807 ?_
        refine ev_iadd hC d_Law_law_808 ?_
        rw [nI_add]
        refine ev_sld hC hX d_Law_law_809 (by omega) (by omega) ?_
        refine cv_Day1 hC d_Law_law_810 (c1) mi_Day_clocks ml_Law_92 im_Day_clocks se_Day_clocks rfl ⟨Nat.le_of_ble_eq_true rfl, Nat.le_of_ble_eq_true rfl⟩ ⟨Nat.le_of_ble_eq_true rfl, Nat.le_of_ble_eq_true rfl⟩ rfl rfl (Nat.le_of_ble_eq_true rfl)  ?_
        refine ev_aload_n rfl hC d_Law_law_813 ?_
        refine ev_aload_n rfl hC d_Law_law_814 ?_
        refine ev_iload_n rfl hC d_Law_law_815 ?_
        refine ev_iconst (v := nI 1) rfl hC d_Law_law_816 ?_
        refine ev_iadd hC d_Law_law_817 ?_
        rw [nI_add]
        refine ev_sld hC hX d_Law_law_818 (by omega) (by omega) ?_
        refine ev_aload_n rfl hC d_Law_law_819 ?_
        refine ev_iload_n rfl hC d_Law_law_820 ?_
        refine ev_iconst (v := nI 2) rfl hC d_Law_law_821 ?_
        refine ev_iadd hC d_Law_law_822 ?_
        rw [nI_add]
        refine ev_sld hC hX d_Law_law_823 (by omega) (by omega) ?_
        refine cv_Mod1 hC d_Law_law_824 (c2) mi_Mod_clocks ml_Law_95 im_Mod_clocks se_Mod_clocks rfl ⟨Nat.le_of_ble_eq_true rfl, Nat.le_of_ble_eq_true rfl⟩ ⟨Nat.le_of_ble_eq_true rfl, Nat.le_of_ble_eq_true rfl⟩ rfl rfl (Nat.le_of_ble_eq_true rfl)  ?_
        refine ev_icmp_eq 1466 hC d_Law_law_827 rfl (fun _ => ?_) (fun h => absurd rfl h)
        refine ev_iinc rfl (by decide) (nI_6 i) hC d_Law_law_1466 ?_
        refine ev_goto 18 hC d_Law_law_1469 rfl ?_
        exact ih (i + 6) M2 hr (by omega) (by omega)
      · obtain ⟨v, M1, M2, c1, c2, hr⟩ := L_rich (G := G) (M := M) (p := xs (i + 1)) (n := xs (i + 2)) h
        refine ev_aload_n rfl hC d_Law_law_832 ?_
        refine ev_aload_n rfl hC d_Law_law_833 ?_
        refine ev_iload_n rfl hC d_Law_law_834 ?_
        refine ev_iconst (v := nI 1) rfl hC d_Law_law_835 ?_
        refine ev_iadd hC d_Law_law_836 ?_
        rw [nI_add]
        refine ev_sld hC hX d_Law_law_837 (by omega) (by omega) ?_
        refine ev_aload_n rfl hC d_Law_law_838 ?_
        refine ev_iload_n rfl hC d_Law_law_839 ?_
        refine ev_iconst (v := nI 2) rfl hC d_Law_law_840 ?_
        refine ev_iadd hC d_Law_law_841 ?_
        rw [nI_add]
        refine ev_sld hC hX d_Law_law_842 (by omega) (by omega) ?_
        refine cv_Day1 hC d_Law_law_843 (c1) mi_Day_rich ml_Law_96 im_Day_rich se_Day_rich rfl ⟨Nat.le_of_ble_eq_true rfl, Nat.le_of_ble_eq_true rfl⟩ ⟨Nat.le_of_ble_eq_true rfl, Nat.le_of_ble_eq_true rfl⟩ rfl rfl (Nat.le_of_ble_eq_true rfl)  ?_
        refine ev_aload_n rfl hC d_Law_law_846 ?_
        refine ev_aload_n rfl hC d_Law_law_847 ?_
        refine ev_iload_n rfl hC d_Law_law_848 ?_
        refine ev_iconst (v := nI 1) rfl hC d_Law_law_849 ?_
        refine ev_iadd hC d_Law_law_850 ?_
        rw [nI_add]
        refine ev_sld hC hX d_Law_law_851 (by omega) (by omega) ?_
        refine ev_aload_n rfl hC d_Law_law_852 ?_
        refine ev_iload_n rfl hC d_Law_law_853 ?_
        refine ev_iconst (v := nI 2) rfl hC d_Law_law_854 ?_
        refine ev_iadd hC d_Law_law_855 ?_
        rw [nI_add]
        refine ev_sld hC hX d_Law_law_856 (by omega) (by omega) ?_
        refine cv_Mod1 hC d_Law_law_857 (c2) mi_Mod_rich ml_Law_99 im_Mod_rich se_Mod_rich rfl ⟨Nat.le_of_ble_eq_true rfl, Nat.le_of_ble_eq_true rfl⟩ ⟨Nat.le_of_ble_eq_true rfl, Nat.le_of_ble_eq_true rfl⟩ rfl rfl (Nat.le_of_ble_eq_true rfl)  ?_
        refine ev_icmp_eq 1466 hC d_Law_law_860 rfl (fun _ => ?_) (fun h => absurd rfl h)
        refine ev_iinc rfl (by decide) (nI_6 i) hC d_Law_law_1466 ?_
        refine ev_goto 18 hC d_Law_law_1469 rfl ?_
        exact ih (i + 6) M2 hr (by omega) (by omega)
      · obtain ⟨v, M1, M2, c1, c2, hr⟩ := L_bears (G := G) (M := M) (v := xs (i + 1)) (n := xs (i + 2)) h
        refine ev_aload_n rfl hC d_Law_law_865 ?_
        refine ev_aload_n rfl hC d_Law_law_866 ?_
        refine ev_iload_n rfl hC d_Law_law_867 ?_
        refine ev_iconst (v := nI 1) rfl hC d_Law_law_868 ?_
        refine ev_iadd hC d_Law_law_869 ?_
        rw [nI_add]
        refine ev_sld hC hX d_Law_law_870 (by omega) (by omega) ?_
        refine ev_aload_n rfl hC d_Law_law_871 ?_
        refine ev_iload_n rfl hC d_Law_law_872 ?_
        refine ev_iconst (v := nI 2) rfl hC d_Law_law_873 ?_
        refine ev_iadd hC d_Law_law_874 ?_
        rw [nI_add]
        refine ev_sld hC hX d_Law_law_875 (by omega) (by omega) ?_
        refine cv_Day1 hC d_Law_law_876 (c1) mi_Day_bears ml_Law_100 im_Day_bears se_Day_bears rfl ⟨Nat.le_of_ble_eq_true rfl, Nat.le_of_ble_eq_true rfl⟩ ⟨Nat.le_of_ble_eq_true rfl, Nat.le_of_ble_eq_true rfl⟩ rfl rfl (Nat.le_of_ble_eq_true rfl)  ?_
        refine ev_aload_n rfl hC d_Law_law_879 ?_
        refine ev_aload_n rfl hC d_Law_law_880 ?_
        refine ev_iload_n rfl hC d_Law_law_881 ?_
        refine ev_iconst (v := nI 1) rfl hC d_Law_law_882 ?_
        refine ev_iadd hC d_Law_law_883 ?_
        rw [nI_add]
        refine ev_sld hC hX d_Law_law_884 (by omega) (by omega) ?_
        refine ev_aload_n rfl hC d_Law_law_885 ?_
        refine ev_iload_n rfl hC d_Law_law_886 ?_
        refine ev_iconst (v := nI 2) rfl hC d_Law_law_887 ?_
        refine ev_iadd hC d_Law_law_888 ?_
        rw [nI_add]
        refine ev_sld hC hX d_Law_law_889 (by omega) (by omega) ?_
        refine cv_Mod1 hC d_Law_law_890 (c2) mi_Mod_bears ml_Law_103 im_Mod_bears se_Mod_bears rfl ⟨Nat.le_of_ble_eq_true rfl, Nat.le_of_ble_eq_true rfl⟩ ⟨Nat.le_of_ble_eq_true rfl, Nat.le_of_ble_eq_true rfl⟩ rfl rfl (Nat.le_of_ble_eq_true rfl)  ?_
        refine ev_icmp_eq 1466 hC d_Law_law_893 rfl (fun _ => ?_) (fun h => absurd rfl h)
        refine ev_iinc rfl (by decide) (nI_6 i) hC d_Law_law_1466 ?_
        refine ev_goto 18 hC d_Law_law_1469 rfl ?_
        exact ih (i + 6) M2 hr (by omega) (by omega)
      · obtain ⟨v, M1, M2, c1, c2, hr⟩ := L_bank (G := G) (M := M) (p := xs (i + 1)) (n := xs (i + 2)) h
        refine ev_aload_n rfl hC d_Law_law_898 ?_
        refine ev_aload_n rfl hC d_Law_law_899 ?_
        refine ev_iload_n rfl hC d_Law_law_900 ?_
        refine ev_iconst (v := nI 1) rfl hC d_Law_law_901 ?_
        refine ev_iadd hC d_Law_law_902 ?_
        rw [nI_add]
        refine ev_sld hC hX d_Law_law_903 (by omega) (by omega) ?_
        refine ev_aload_n rfl hC d_Law_law_904 ?_
        refine ev_iload_n rfl hC d_Law_law_905 ?_
        refine ev_iconst (v := nI 2) rfl hC d_Law_law_906 ?_
        refine ev_iadd hC d_Law_law_907 ?_
        rw [nI_add]
        refine ev_sld hC hX d_Law_law_908 (by omega) (by omega) ?_
        refine cv_Day1 hC d_Law_law_909 (c1) mi_Day_bank ml_Law_104 im_Day_bank se_Day_bank rfl ⟨Nat.le_of_ble_eq_true rfl, Nat.le_of_ble_eq_true rfl⟩ ⟨Nat.le_of_ble_eq_true rfl, Nat.le_of_ble_eq_true rfl⟩ rfl rfl (Nat.le_of_ble_eq_true rfl)  ?_
        refine ev_aload_n rfl hC d_Law_law_912 ?_
        refine ev_aload_n rfl hC d_Law_law_913 ?_
        refine ev_iload_n rfl hC d_Law_law_914 ?_
        refine ev_iconst (v := nI 1) rfl hC d_Law_law_915 ?_
        refine ev_iadd hC d_Law_law_916 ?_
        rw [nI_add]
        refine ev_sld hC hX d_Law_law_917 (by omega) (by omega) ?_
        refine ev_aload_n rfl hC d_Law_law_918 ?_
        refine ev_iload_n rfl hC d_Law_law_919 ?_
        refine ev_iconst (v := nI 2) rfl hC d_Law_law_920 ?_
        refine ev_iadd hC d_Law_law_921 ?_
        rw [nI_add]
        refine ev_sld hC hX d_Law_law_922 (by omega) (by omega) ?_
        refine cv_Mod1 hC d_Law_law_923 (c2) mi_Mod_bank ml_Law_107 im_Mod_bank se_Mod_bank rfl ⟨Nat.le_of_ble_eq_true rfl, Nat.le_of_ble_eq_true rfl⟩ ⟨Nat.le_of_ble_eq_true rfl, Nat.le_of_ble_eq_true rfl⟩ rfl rfl (Nat.le_of_ble_eq_true rfl)  ?_
        refine ev_icmp_eq 1466 hC d_Law_law_926 rfl (fun _ => ?_) (fun h => absurd rfl h)
        refine ev_iinc rfl (by decide) (nI_6 i) hC d_Law_law_1466 ?_
        refine ev_goto 18 hC d_Law_law_1469 rfl ?_
        exact ih (i + 6) M2 hr (by omega) (by omega)
      · obtain ⟨v, M1, M2, c1, c2, hr⟩ := L_kind (G := G) (M := M) (p := xs (i + 1)) (n := xs (i + 2)) h
        refine ev_aload_n rfl hC d_Law_law_931 ?_
        refine ev_aload_n rfl hC d_Law_law_932 ?_
        refine ev_iload_n rfl hC d_Law_law_933 ?_
        refine ev_iconst (v := nI 1) rfl hC d_Law_law_934 ?_
        refine ev_iadd hC d_Law_law_935 ?_
        rw [nI_add]
        refine ev_sld hC hX d_Law_law_936 (by omega) (by omega) ?_
        refine ev_aload_n rfl hC d_Law_law_937 ?_
        refine ev_iload_n rfl hC d_Law_law_938 ?_
        refine ev_iconst (v := nI 2) rfl hC d_Law_law_939 ?_
        refine ev_iadd hC d_Law_law_940 ?_
        rw [nI_add]
        refine ev_sld hC hX d_Law_law_941 (by omega) (by omega) ?_
        refine cv_Day1 hC d_Law_law_942 (c1) mi_Day_kind ml_Law_108 im_Day_kind se_Day_kind rfl ⟨Nat.le_of_ble_eq_true rfl, Nat.le_of_ble_eq_true rfl⟩ ⟨Nat.le_of_ble_eq_true rfl, Nat.le_of_ble_eq_true rfl⟩ rfl rfl (Nat.le_of_ble_eq_true rfl)  ?_
        refine ev_aload_n rfl hC d_Law_law_945 ?_
        refine ev_aload_n rfl hC d_Law_law_946 ?_
        refine ev_iload_n rfl hC d_Law_law_947 ?_
        refine ev_iconst (v := nI 1) rfl hC d_Law_law_948 ?_
        refine ev_iadd hC d_Law_law_949 ?_
        rw [nI_add]
        refine ev_sld hC hX d_Law_law_950 (by omega) (by omega) ?_
        refine ev_aload_n rfl hC d_Law_law_951 ?_
        refine ev_iload_n rfl hC d_Law_law_952 ?_
        refine ev_iconst (v := nI 2) rfl hC d_Law_law_953 ?_
        refine ev_iadd hC d_Law_law_954 ?_
        rw [nI_add]
        refine ev_sld hC hX d_Law_law_955 (by omega) (by omega) ?_
        refine cv_Mod1 hC d_Law_law_956 (c2) mi_Mod_kind ml_Law_111 im_Mod_kind se_Mod_kind rfl ⟨Nat.le_of_ble_eq_true rfl, Nat.le_of_ble_eq_true rfl⟩ ⟨Nat.le_of_ble_eq_true rfl, Nat.le_of_ble_eq_true rfl⟩ rfl rfl (Nat.le_of_ble_eq_true rfl)  ?_
        refine ev_icmp_eq 1466 hC d_Law_law_959 rfl (fun _ => ?_) (fun h => absurd rfl h)
        refine ev_iinc rfl (by decide) (nI_6 i) hC d_Law_law_1466 ?_
        refine ev_goto 18 hC d_Law_law_1469 rfl ?_
        exact ih (i + 6) M2 hr (by omega) (by omega)
      · obtain ⟨v, M1, M2, c1, c2, hr⟩ := L_news (G := G) (M := M) (p := xs (i + 1)) (n := xs (i + 2)) h
        refine ev_aload_n rfl hC d_Law_law_964 ?_
        refine ev_aload_n rfl hC d_Law_law_965 ?_
        refine ev_iload_n rfl hC d_Law_law_966 ?_
        refine ev_iconst (v := nI 1) rfl hC d_Law_law_967 ?_
        refine ev_iadd hC d_Law_law_968 ?_
        rw [nI_add]
        refine ev_sld hC hX d_Law_law_969 (by omega) (by omega) ?_
        refine ev_aload_n rfl hC d_Law_law_970 ?_
        refine ev_iload_n rfl hC d_Law_law_971 ?_
        refine ev_iconst (v := nI 2) rfl hC d_Law_law_972 ?_
        refine ev_iadd hC d_Law_law_973 ?_
        rw [nI_add]
        refine ev_sld hC hX d_Law_law_974 (by omega) (by omega) ?_
        refine cv_Day1 hC d_Law_law_975 (c1) mi_Day_news ml_Law_112 im_Day_news se_Day_news rfl ⟨Nat.le_of_ble_eq_true rfl, Nat.le_of_ble_eq_true rfl⟩ ⟨Nat.le_of_ble_eq_true rfl, Nat.le_of_ble_eq_true rfl⟩ rfl rfl (Nat.le_of_ble_eq_true rfl)  ?_
        refine ev_aload_n rfl hC d_Law_law_978 ?_
        refine ev_aload_n rfl hC d_Law_law_979 ?_
        refine ev_iload_n rfl hC d_Law_law_980 ?_
        refine ev_iconst (v := nI 1) rfl hC d_Law_law_981 ?_
        refine ev_iadd hC d_Law_law_982 ?_
        rw [nI_add]
        refine ev_sld hC hX d_Law_law_983 (by omega) (by omega) ?_
        refine ev_aload_n rfl hC d_Law_law_984 ?_
        refine ev_iload_n rfl hC d_Law_law_985 ?_
        refine ev_iconst (v := nI 2) rfl hC d_Law_law_986 ?_
        refine ev_iadd hC d_Law_law_987 ?_
        rw [nI_add]
        refine ev_sld hC hX d_Law_law_988 (by omega) (by omega) ?_
        refine cv_Mod1 hC d_Law_law_989 (c2) mi_Mod_news ml_Law_115 im_Mod_news se_Mod_news rfl ⟨Nat.le_of_ble_eq_true rfl, Nat.le_of_ble_eq_true rfl⟩ ⟨Nat.le_of_ble_eq_true rfl, Nat.le_of_ble_eq_true rfl⟩ rfl rfl (Nat.le_of_ble_eq_true rfl)  ?_
        refine ev_icmp_eq 1466 hC d_Law_law_992 rfl (fun _ => ?_) (fun h => absurd rfl h)
        refine ev_iinc rfl (by decide) (nI_6 i) hC d_Law_law_1466 ?_
        refine ev_goto 18 hC d_Law_law_1469 rfl ?_
        exact ih (i + 6) M2 hr (by omega) (by omega)
      · obtain ⟨v, M1, M2, c1, c2, hr⟩ := L_needed (G := G) (M := M) (n := xs (i + 1)) h
        refine ev_aload_n rfl hC d_Law_law_997 ?_
        refine ev_aload_n rfl hC d_Law_law_998 ?_
        refine ev_iload_n rfl hC d_Law_law_999 ?_
        refine ev_iconst (v := nI 1) rfl hC d_Law_law_1000 ?_
        refine ev_iadd hC d_Law_law_1001 ?_
        rw [nI_add]
        refine ev_sld hC hX d_Law_law_1002 (by omega) (by omega) ?_
        refine cv_Day1 hC d_Law_law_1003 (c1) mi_Day_needed ml_Law_116 im_Day_needed se_Day_needed rfl ⟨Nat.le_of_ble_eq_true rfl, Nat.le_of_ble_eq_true rfl⟩ ⟨Nat.le_of_ble_eq_true rfl, Nat.le_of_ble_eq_true rfl⟩ rfl rfl (Nat.le_of_ble_eq_true rfl)  ?_
        refine ev_aload_n rfl hC d_Law_law_1006 ?_
        refine ev_aload_n rfl hC d_Law_law_1007 ?_
        refine ev_iload_n rfl hC d_Law_law_1008 ?_
        refine ev_iconst (v := nI 1) rfl hC d_Law_law_1009 ?_
        refine ev_iadd hC d_Law_law_1010 ?_
        rw [nI_add]
        refine ev_sld hC hX d_Law_law_1011 (by omega) (by omega) ?_
        refine cv_Mod1 hC d_Law_law_1012 (c2) mi_Mod_needed ml_Law_119 im_Mod_needed se_Mod_needed rfl ⟨Nat.le_of_ble_eq_true rfl, Nat.le_of_ble_eq_true rfl⟩ ⟨Nat.le_of_ble_eq_true rfl, Nat.le_of_ble_eq_true rfl⟩ rfl rfl (Nat.le_of_ble_eq_true rfl)  ?_
        refine ev_icmp_eq 1466 hC d_Law_law_1015 rfl (fun _ => ?_) (fun h => absurd rfl h)
        refine ev_iinc rfl (by decide) (nI_6 i) hC d_Law_law_1466 ?_
        refine ev_goto 18 hC d_Law_law_1469 rfl ?_
        exact ih (i + 6) M2 hr (by omega) (by omega)
      · obtain ⟨v, M1, M2, c1, c2, hr⟩ := L_sum (G := G) (M := M) (e := xs (i + 1)) (n := xs (i + 2)) h
        refine ev_aload_n rfl hC d_Law_law_1020 ?_
        refine ev_aload_n rfl hC d_Law_law_1021 ?_
        refine ev_iload_n rfl hC d_Law_law_1022 ?_
        refine ev_iconst (v := nI 1) rfl hC d_Law_law_1023 ?_
        refine ev_iadd hC d_Law_law_1024 ?_
        rw [nI_add]
        refine ev_sld hC hX d_Law_law_1025 (by omega) (by omega) ?_
        refine ev_aload_n rfl hC d_Law_law_1026 ?_
        refine ev_iload_n rfl hC d_Law_law_1027 ?_
        refine ev_iconst (v := nI 2) rfl hC d_Law_law_1028 ?_
        refine ev_iadd hC d_Law_law_1029 ?_
        rw [nI_add]
        refine ev_sld hC hX d_Law_law_1030 (by omega) (by omega) ?_
        refine cv_Day1 hC d_Law_law_1031 (c1) mi_Day_sum ml_Law_120 im_Day_sum se_Day_sum rfl ⟨Nat.le_of_ble_eq_true rfl, Nat.le_of_ble_eq_true rfl⟩ ⟨Nat.le_of_ble_eq_true rfl, Nat.le_of_ble_eq_true rfl⟩ rfl rfl (Nat.le_of_ble_eq_true rfl)  ?_
        refine ev_aload_n rfl hC d_Law_law_1034 ?_
        refine ev_aload_n rfl hC d_Law_law_1035 ?_
        refine ev_iload_n rfl hC d_Law_law_1036 ?_
        refine ev_iconst (v := nI 1) rfl hC d_Law_law_1037 ?_
        refine ev_iadd hC d_Law_law_1038 ?_
        rw [nI_add]
        refine ev_sld hC hX d_Law_law_1039 (by omega) (by omega) ?_
        refine ev_aload_n rfl hC d_Law_law_1040 ?_
        refine ev_iload_n rfl hC d_Law_law_1041 ?_
        refine ev_iconst (v := nI 2) rfl hC d_Law_law_1042 ?_
        refine ev_iadd hC d_Law_law_1043 ?_
        rw [nI_add]
        refine ev_sld hC hX d_Law_law_1044 (by omega) (by omega) ?_
        refine cv_Mod1 hC d_Law_law_1045 (c2) mi_Mod_sum ml_Law_123 im_Mod_sum se_Mod_sum rfl ⟨Nat.le_of_ble_eq_true rfl, Nat.le_of_ble_eq_true rfl⟩ ⟨Nat.le_of_ble_eq_true rfl, Nat.le_of_ble_eq_true rfl⟩ rfl rfl (Nat.le_of_ble_eq_true rfl)  ?_
        refine ev_icmp_eq 1466 hC d_Law_law_1048 rfl (fun _ => ?_) (fun h => absurd rfl h)
        refine ev_iinc rfl (by decide) (nI_6 i) hC d_Law_law_1466 ?_
        refine ev_goto 18 hC d_Law_law_1469 rfl ?_
        exact ih (i + 6) M2 hr (by omega) (by omega)
      · obtain ⟨v, M1, M2, c1, c2, hr⟩ := L_feed (G := G) (M := M) (b := xs (i + 1)) (n := xs (i + 2)) h
        refine ev_aload_n rfl hC d_Law_law_1053 ?_
        refine ev_aload_n rfl hC d_Law_law_1054 ?_
        refine ev_iload_n rfl hC d_Law_law_1055 ?_
        refine ev_iconst (v := nI 1) rfl hC d_Law_law_1056 ?_
        refine ev_iadd hC d_Law_law_1057 ?_
        rw [nI_add]
        refine ev_sld hC hX d_Law_law_1058 (by omega) (by omega) ?_
        refine ev_aload_n rfl hC d_Law_law_1059 ?_
        refine ev_iload_n rfl hC d_Law_law_1060 ?_
        refine ev_iconst (v := nI 2) rfl hC d_Law_law_1061 ?_
        refine ev_iadd hC d_Law_law_1062 ?_
        rw [nI_add]
        refine ev_sld hC hX d_Law_law_1063 (by omega) (by omega) ?_
        refine cv_Day1 hC d_Law_law_1064 (c1) mi_Day_feed ml_Law_124 im_Day_feed se_Day_feed rfl ⟨Nat.le_of_ble_eq_true rfl, Nat.le_of_ble_eq_true rfl⟩ ⟨Nat.le_of_ble_eq_true rfl, Nat.le_of_ble_eq_true rfl⟩ rfl rfl (Nat.le_of_ble_eq_true rfl)  ?_
        refine ev_aload_n rfl hC d_Law_law_1067 ?_
        refine ev_aload_n rfl hC d_Law_law_1068 ?_
        refine ev_iload_n rfl hC d_Law_law_1069 ?_
        refine ev_iconst (v := nI 1) rfl hC d_Law_law_1070 ?_
        refine ev_iadd hC d_Law_law_1071 ?_
        rw [nI_add]
        refine ev_sld hC hX d_Law_law_1072 (by omega) (by omega) ?_
        refine ev_aload_n rfl hC d_Law_law_1073 ?_
        refine ev_iload_n rfl hC d_Law_law_1074 ?_
        refine ev_iconst (v := nI 2) rfl hC d_Law_law_1075 ?_
        refine ev_iadd hC d_Law_law_1076 ?_
        rw [nI_add]
        refine ev_sld hC hX d_Law_law_1077 (by omega) (by omega) ?_
        refine cv_Mod1 hC d_Law_law_1078 (c2) mi_Mod_feed ml_Law_127 im_Mod_feed se_Mod_feed rfl ⟨Nat.le_of_ble_eq_true rfl, Nat.le_of_ble_eq_true rfl⟩ ⟨Nat.le_of_ble_eq_true rfl, Nat.le_of_ble_eq_true rfl⟩ rfl rfl (Nat.le_of_ble_eq_true rfl)  ?_
        refine ev_icmp_eq 1466 hC d_Law_law_1081 rfl (fun _ => ?_) (fun h => absurd rfl h)
        refine ev_iinc rfl (by decide) (nI_6 i) hC d_Law_law_1466 ?_
        refine ev_goto 18 hC d_Law_law_1469 rfl ?_
        exact ih (i + 6) M2 hr (by omega) (by omega)
      · obtain ⟨v, M1, M2, c1, c2, hr⟩ := L_wipe (G := G) (M := M)  h
        refine ev_aload_n rfl hC d_Law_law_1086 ?_
        refine cv_Day1 hC d_Law_law_1087 (c1) mi_Day_wipe ml_Law_128 im_Day_wipe se_Day_wipe rfl ⟨Nat.le_of_ble_eq_true rfl, Nat.le_of_ble_eq_true rfl⟩ ⟨Nat.le_of_ble_eq_true rfl, Nat.le_of_ble_eq_true rfl⟩ rfl rfl (Nat.le_of_ble_eq_true rfl)  ?_
        refine ev_aload_n rfl hC d_Law_law_1090 ?_
        refine cv_Mod1 hC d_Law_law_1091 (c2) mi_Mod_wipe ml_Law_132 im_Mod_wipe se_Mod_wipe rfl ⟨Nat.le_of_ble_eq_true rfl, Nat.le_of_ble_eq_true rfl⟩ ⟨Nat.le_of_ble_eq_true rfl, Nat.le_of_ble_eq_true rfl⟩ rfl rfl (Nat.le_of_ble_eq_true rfl)  ?_
        refine ev_icmp_eq 1466 hC d_Law_law_1094 rfl (fun _ => ?_) (fun h => absurd rfl h)
        refine ev_iinc rfl (by decide) (nI_6 i) hC d_Law_law_1466 ?_
        refine ev_goto 18 hC d_Law_law_1469 rfl ?_
        exact ih (i + 6) M2 hr (by omega) (by omega)
      · obtain ⟨v, M1, M2, c1, c2, hr⟩ := L_river (G := G) (M := M)  h
        refine ev_aload_n rfl hC d_Law_law_1099 ?_
        refine cv_Day1 hC d_Law_law_1100 (c1) mi_Day_river ml_Law_133 im_Day_river se_Day_river rfl ⟨Nat.le_of_ble_eq_true rfl, Nat.le_of_ble_eq_true rfl⟩ ⟨Nat.le_of_ble_eq_true rfl, Nat.le_of_ble_eq_true rfl⟩ rfl rfl (Nat.le_of_ble_eq_true rfl)  ?_
        refine ev_aload_n rfl hC d_Law_law_1103 ?_
        refine cv_Mod1 hC d_Law_law_1104 (c2) mi_Mod_river ml_Law_136 im_Mod_river se_Mod_river rfl ⟨Nat.le_of_ble_eq_true rfl, Nat.le_of_ble_eq_true rfl⟩ ⟨Nat.le_of_ble_eq_true rfl, Nat.le_of_ble_eq_true rfl⟩ rfl rfl (Nat.le_of_ble_eq_true rfl)  ?_
        refine ev_icmp_eq 1466 hC d_Law_law_1107 rfl (fun _ => ?_) (fun h => absurd rfl h)
        refine ev_iinc rfl (by decide) (nI_6 i) hC d_Law_law_1466 ?_
        refine ev_goto 18 hC d_Law_law_1469 rfl ?_
        exact ih (i + 6) M2 hr (by omega) (by omega)
      · obtain ⟨v, M1, M2, c1, c2, hr⟩ := L_sheet (G := G) (M := M) (s := xs (i + 1)) (b := xs (i + 2)) (n := xs (i + 3)) h
        refine ev_aload_n rfl hC d_Law_law_1112 ?_
        refine ev_aload_n rfl hC d_Law_law_1113 ?_
        refine ev_iload_n rfl hC d_Law_law_1114 ?_
        refine ev_iconst (v := nI 1) rfl hC d_Law_law_1115 ?_
        refine ev_iadd hC d_Law_law_1116 ?_
        rw [nI_add]
        refine ev_sld hC hX d_Law_law_1117 (by omega) (by omega) ?_
        refine ev_aload_n rfl hC d_Law_law_1118 ?_
        refine ev_iload_n rfl hC d_Law_law_1119 ?_
        refine ev_iconst (v := nI 2) rfl hC d_Law_law_1120 ?_
        refine ev_iadd hC d_Law_law_1121 ?_
        rw [nI_add]
        refine ev_sld hC hX d_Law_law_1122 (by omega) (by omega) ?_
        refine ev_aload_n rfl hC d_Law_law_1123 ?_
        refine ev_iload_n rfl hC d_Law_law_1124 ?_
        refine ev_iconst (v := nI 3) rfl hC d_Law_law_1125 ?_
        refine ev_iadd hC d_Law_law_1126 ?_
        rw [nI_add]
        refine ev_sld hC hX d_Law_law_1127 (by omega) (by omega) ?_
        refine cv_Day1 hC d_Law_law_1128 (c1) mi_Day_sheet ml_Law_137 im_Day_sheet se_Day_sheet rfl ⟨Nat.le_of_ble_eq_true rfl, Nat.le_of_ble_eq_true rfl⟩ ⟨Nat.le_of_ble_eq_true rfl, Nat.le_of_ble_eq_true rfl⟩ rfl rfl (Nat.le_of_ble_eq_true rfl)  ?_
        refine ev_aload_n rfl hC d_Law_law_1131 ?_
        refine ev_aload_n rfl hC d_Law_law_1132 ?_
        refine ev_iload_n rfl hC d_Law_law_1133 ?_
        refine ev_iconst (v := nI 1) rfl hC d_Law_law_1134 ?_
        refine ev_iadd hC d_Law_law_1135 ?_
        rw [nI_add]
        refine ev_sld hC hX d_Law_law_1136 (by omega) (by omega) ?_
        refine ev_aload_n rfl hC d_Law_law_1137 ?_
        refine ev_iload_n rfl hC d_Law_law_1138 ?_
        refine ev_iconst (v := nI 2) rfl hC d_Law_law_1139 ?_
        refine ev_iadd hC d_Law_law_1140 ?_
        rw [nI_add]
        refine ev_sld hC hX d_Law_law_1141 (by omega) (by omega) ?_
        refine ev_aload_n rfl hC d_Law_law_1142 ?_
        refine ev_iload_n rfl hC d_Law_law_1143 ?_
        refine ev_iconst (v := nI 3) rfl hC d_Law_law_1144 ?_
        refine ev_iadd hC d_Law_law_1145 ?_
        rw [nI_add]
        refine ev_sld hC hX d_Law_law_1146 (by omega) (by omega) ?_
        refine cv_Mod1 hC d_Law_law_1147 (c2) mi_Mod_sheet ml_Law_140 im_Mod_sheet se_Mod_sheet rfl ⟨Nat.le_of_ble_eq_true rfl, Nat.le_of_ble_eq_true rfl⟩ ⟨Nat.le_of_ble_eq_true rfl, Nat.le_of_ble_eq_true rfl⟩ rfl rfl (Nat.le_of_ble_eq_true rfl)  ?_
        refine ev_icmp_eq 1466 hC d_Law_law_1150 rfl (fun _ => ?_) (fun h => absurd rfl h)
        refine ev_iinc rfl (by decide) (nI_6 i) hC d_Law_law_1466 ?_
        refine ev_goto 18 hC d_Law_law_1469 rfl ?_
        exact ih (i + 6) M2 hr (by omega) (by omega)
      · obtain ⟨v, M1, M2, c1, c2, hr⟩ := L_write (G := G) (M := M) (s := xs (i + 1)) (i := xs (i + 2)) (v := ((xs (i + 3)).toInt64 <<< ((32 : Int32).toInt64 &&& 63)) ||| ((xs (i + 4)).toInt64 &&& 4294967295)) h
        refine ev_aload_n rfl hC d_Law_law_1155 ?_
        refine ev_aload_n rfl hC d_Law_law_1156 ?_
        refine ev_iload_n rfl hC d_Law_law_1157 ?_
        refine ev_iconst (v := nI 1) rfl hC d_Law_law_1158 ?_
        refine ev_iadd hC d_Law_law_1159 ?_
        rw [nI_add]
        refine ev_sld hC hX d_Law_law_1160 (by omega) (by omega) ?_
        refine ev_aload_n rfl hC d_Law_law_1161 ?_
        refine ev_iload_n rfl hC d_Law_law_1162 ?_
        refine ev_iconst (v := nI 2) rfl hC d_Law_law_1163 ?_
        refine ev_iadd hC d_Law_law_1164 ?_
        rw [nI_add]
        refine ev_sld hC hX d_Law_law_1165 (by omega) (by omega) ?_
        refine ev_aload_n rfl hC d_Law_law_1166 ?_
        refine ev_iload_n rfl hC d_Law_law_1167 ?_
        refine ev_iconst (v := nI 3) rfl hC d_Law_law_1168 ?_
        refine ev_iadd hC d_Law_law_1169 ?_
        rw [nI_add]
        refine ev_sld hC hX d_Law_law_1170 (by omega) (by omega) ?_
        refine ev_i2l hC d_Law_law_1171 ?_
        refine ev_bipush (v := 32) rfl hC d_Law_law_1172 ?_
        refine ev_lshl hC d_Law_law_1174 ?_
        refine ev_aload_n rfl hC d_Law_law_1175 ?_
        refine ev_iload_n rfl hC d_Law_law_1176 ?_
        refine ev_iconst (v := nI 4) rfl hC d_Law_law_1177 ?_
        refine ev_iadd hC d_Law_law_1178 ?_
        rw [nI_add]
        refine ev_sld hC hX d_Law_law_1179 (by omega) (by omega) ?_
        refine ev_i2l hC d_Law_law_1180 ?_
        refine ev_ldc2 kc_Law_141 hC d_Law_law_1181 ?_
        refine ev_land hC d_Law_law_1184 ?_
        refine ev_lor hC d_Law_law_1185 ?_
        refine cv_Day1 hC d_Law_law_1186 (c1) mi_Day_write ml_Law_143 im_Day_write se_Day_write rfl ⟨Nat.le_of_ble_eq_true rfl, Nat.le_of_ble_eq_true rfl⟩ ⟨Nat.le_of_ble_eq_true rfl, Nat.le_of_ble_eq_true rfl⟩ rfl rfl (Nat.le_of_ble_eq_true rfl)  ?_
        refine ev_aload_n rfl hC d_Law_law_1189 ?_
        refine ev_aload_n rfl hC d_Law_law_1190 ?_
        refine ev_iload_n rfl hC d_Law_law_1191 ?_
        refine ev_iconst (v := nI 1) rfl hC d_Law_law_1192 ?_
        refine ev_iadd hC d_Law_law_1193 ?_
        rw [nI_add]
        refine ev_sld hC hX d_Law_law_1194 (by omega) (by omega) ?_
        refine ev_aload_n rfl hC d_Law_law_1195 ?_
        refine ev_iload_n rfl hC d_Law_law_1196 ?_
        refine ev_iconst (v := nI 2) rfl hC d_Law_law_1197 ?_
        refine ev_iadd hC d_Law_law_1198 ?_
        rw [nI_add]
        refine ev_sld hC hX d_Law_law_1199 (by omega) (by omega) ?_
        refine ev_aload_n rfl hC d_Law_law_1200 ?_
        refine ev_iload_n rfl hC d_Law_law_1201 ?_
        refine ev_iconst (v := nI 3) rfl hC d_Law_law_1202 ?_
        refine ev_iadd hC d_Law_law_1203 ?_
        rw [nI_add]
        refine ev_sld hC hX d_Law_law_1204 (by omega) (by omega) ?_
        refine ev_i2l hC d_Law_law_1205 ?_
        refine ev_bipush (v := 32) rfl hC d_Law_law_1206 ?_
        refine ev_lshl hC d_Law_law_1208 ?_
        refine ev_aload_n rfl hC d_Law_law_1209 ?_
        refine ev_iload_n rfl hC d_Law_law_1210 ?_
        refine ev_iconst (v := nI 4) rfl hC d_Law_law_1211 ?_
        refine ev_iadd hC d_Law_law_1212 ?_
        rw [nI_add]
        refine ev_sld hC hX d_Law_law_1213 (by omega) (by omega) ?_
        refine ev_i2l hC d_Law_law_1214 ?_
        refine ev_ldc2 kc_Law_141 hC d_Law_law_1215 ?_
        refine ev_land hC d_Law_law_1218 ?_
        refine ev_lor hC d_Law_law_1219 ?_
        refine cv_Mod1 hC d_Law_law_1220 (c2) mi_Mod_write ml_Law_147 im_Mod_write se_Mod_write rfl ⟨Nat.le_of_ble_eq_true rfl, Nat.le_of_ble_eq_true rfl⟩ ⟨Nat.le_of_ble_eq_true rfl, Nat.le_of_ble_eq_true rfl⟩ rfl rfl (Nat.le_of_ble_eq_true rfl)  ?_
        refine ev_lcmp hC d_Law_law_1223 ?_
        rw [lcmp_self]
        refine ev_if_eq 1466 hC d_Law_law_1224 rfl (fun _ => ?_) (fun h => absurd rfl h)
        refine ev_iinc rfl (by decide) (nI_6 i) hC d_Law_law_1466 ?_
        refine ev_goto 18 hC d_Law_law_1469 rfl ?_
        exact ih (i + 6) M2 hr (by omega) (by omega)
      · obtain ⟨v, M1, M2, c1, c2, hr⟩ := L_copy (G := G) (M := M) (s := xs (i + 1)) (f := xs (i + 2)) (t := xs (i + 3)) (u := xs (i + 4)) (n := xs (i + 5)) h
        refine ev_aload_n rfl hC d_Law_law_1229 ?_
        refine ev_aload_n rfl hC d_Law_law_1230 ?_
        refine ev_iload_n rfl hC d_Law_law_1231 ?_
        refine ev_iconst (v := nI 1) rfl hC d_Law_law_1232 ?_
        refine ev_iadd hC d_Law_law_1233 ?_
        rw [nI_add]
        refine ev_sld hC hX d_Law_law_1234 (by omega) (by omega) ?_
        refine ev_aload_n rfl hC d_Law_law_1235 ?_
        refine ev_iload_n rfl hC d_Law_law_1236 ?_
        refine ev_iconst (v := nI 2) rfl hC d_Law_law_1237 ?_
        refine ev_iadd hC d_Law_law_1238 ?_
        rw [nI_add]
        refine ev_sld hC hX d_Law_law_1239 (by omega) (by omega) ?_
        refine ev_aload_n rfl hC d_Law_law_1240 ?_
        refine ev_iload_n rfl hC d_Law_law_1241 ?_
        refine ev_iconst (v := nI 3) rfl hC d_Law_law_1242 ?_
        refine ev_iadd hC d_Law_law_1243 ?_
        rw [nI_add]
        refine ev_sld hC hX d_Law_law_1244 (by omega) (by omega) ?_
        refine ev_aload_n rfl hC d_Law_law_1245 ?_
        refine ev_iload_n rfl hC d_Law_law_1246 ?_
        refine ev_iconst (v := nI 4) rfl hC d_Law_law_1247 ?_
        refine ev_iadd hC d_Law_law_1248 ?_
        rw [nI_add]
        refine ev_sld hC hX d_Law_law_1249 (by omega) (by omega) ?_
        refine ev_aload_n rfl hC d_Law_law_1250 ?_
        refine ev_iload_n rfl hC d_Law_law_1251 ?_
        refine ev_iconst (v := nI 5) rfl hC d_Law_law_1252 ?_
        refine ev_iadd hC d_Law_law_1253 ?_
        rw [nI_add]
        refine ev_sld hC hX d_Law_law_1254 (by omega) (by omega) ?_
        refine cv_Day1 hC d_Law_law_1255 (c1) mi_Day_copy ml_Law_148 im_Day_copy se_Day_copy rfl ⟨Nat.le_of_ble_eq_true rfl, Nat.le_of_ble_eq_true rfl⟩ ⟨Nat.le_of_ble_eq_true rfl, Nat.le_of_ble_eq_true rfl⟩ rfl rfl (Nat.le_of_ble_eq_true rfl)  ?_
        refine ev_aload_n rfl hC d_Law_law_1258 ?_
        refine ev_aload_n rfl hC d_Law_law_1259 ?_
        refine ev_iload_n rfl hC d_Law_law_1260 ?_
        refine ev_iconst (v := nI 1) rfl hC d_Law_law_1261 ?_
        refine ev_iadd hC d_Law_law_1262 ?_
        rw [nI_add]
        refine ev_sld hC hX d_Law_law_1263 (by omega) (by omega) ?_
        refine ev_aload_n rfl hC d_Law_law_1264 ?_
        refine ev_iload_n rfl hC d_Law_law_1265 ?_
        refine ev_iconst (v := nI 2) rfl hC d_Law_law_1266 ?_
        refine ev_iadd hC d_Law_law_1267 ?_
        rw [nI_add]
        refine ev_sld hC hX d_Law_law_1268 (by omega) (by omega) ?_
        refine ev_aload_n rfl hC d_Law_law_1269 ?_
        refine ev_iload_n rfl hC d_Law_law_1270 ?_
        refine ev_iconst (v := nI 3) rfl hC d_Law_law_1271 ?_
        refine ev_iadd hC d_Law_law_1272 ?_
        rw [nI_add]
        refine ev_sld hC hX d_Law_law_1273 (by omega) (by omega) ?_
        refine ev_aload_n rfl hC d_Law_law_1274 ?_
        refine ev_iload_n rfl hC d_Law_law_1275 ?_
        refine ev_iconst (v := nI 4) rfl hC d_Law_law_1276 ?_
        refine ev_iadd hC d_Law_law_1277 ?_
        rw [nI_add]
        refine ev_sld hC hX d_Law_law_1278 (by omega) (by omega) ?_
        refine ev_aload_n rfl hC d_Law_law_1279 ?_
        refine ev_iload_n rfl hC d_Law_law_1280 ?_
        refine ev_iconst (v := nI 5) rfl hC d_Law_law_1281 ?_
        refine ev_iadd hC d_Law_law_1282 ?_
        rw [nI_add]
        refine ev_sld hC hX d_Law_law_1283 (by omega) (by omega) ?_
        refine cv_Mod1 hC d_Law_law_1284 (c2) mi_Mod_copy ml_Law_152 im_Mod_copy se_Mod_copy rfl ⟨Nat.le_of_ble_eq_true rfl, Nat.le_of_ble_eq_true rfl⟩ ⟨Nat.le_of_ble_eq_true rfl, Nat.le_of_ble_eq_true rfl⟩ rfl rfl (Nat.le_of_ble_eq_true rfl)  ?_
        refine ev_icmp_eq 1466 hC d_Law_law_1287 rfl (fun _ => ?_) (fun h => absurd rfl h)
        refine ev_iinc rfl (by decide) (nI_6 i) hC d_Law_law_1466 ?_
        refine ev_goto 18 hC d_Law_law_1469 rfl ?_
        exact ih (i + 6) M2 hr (by omega) (by omega)
      · obtain ⟨v, M1, M2, c1, c2, hr⟩ := L_lays (G := G) (M := M) (x := xs (i + 1)) h
        refine ev_aload_n rfl hC d_Law_law_1292 ?_
        refine ev_aload_n rfl hC d_Law_law_1293 ?_
        refine ev_iload_n rfl hC d_Law_law_1294 ?_
        refine ev_iconst (v := nI 1) rfl hC d_Law_law_1295 ?_
        refine ev_iadd hC d_Law_law_1296 ?_
        rw [nI_add]
        refine ev_sld hC hX d_Law_law_1297 (by omega) (by omega) ?_
        refine cv_Day1 hC d_Law_law_1298 (c1) mi_Day_lays ml_Law_153 im_Day_lays se_Day_lays rfl ⟨Nat.le_of_ble_eq_true rfl, Nat.le_of_ble_eq_true rfl⟩ ⟨Nat.le_of_ble_eq_true rfl, Nat.le_of_ble_eq_true rfl⟩ rfl rfl (Nat.le_of_ble_eq_true rfl)  ?_
        refine ev_aload_n rfl hC d_Law_law_1301 ?_
        refine ev_aload_n rfl hC d_Law_law_1302 ?_
        refine ev_iload_n rfl hC d_Law_law_1303 ?_
        refine ev_iconst (v := nI 1) rfl hC d_Law_law_1304 ?_
        refine ev_iadd hC d_Law_law_1305 ?_
        rw [nI_add]
        refine ev_sld hC hX d_Law_law_1306 (by omega) (by omega) ?_
        refine cv_Mod1 hC d_Law_law_1307 (c2) mi_Mod_lays ml_Law_156 im_Mod_lays se_Mod_lays rfl ⟨Nat.le_of_ble_eq_true rfl, Nat.le_of_ble_eq_true rfl⟩ ⟨Nat.le_of_ble_eq_true rfl, Nat.le_of_ble_eq_true rfl⟩ rfl rfl (Nat.le_of_ble_eq_true rfl)  ?_
        refine ev_icmp_eq 1466 hC d_Law_law_1310 rfl (fun _ => ?_) (fun h => absurd rfl h)
        refine ev_iinc rfl (by decide) (nI_6 i) hC d_Law_law_1466 ?_
        refine ev_goto 18 hC d_Law_law_1469 rfl ?_
        exact ih (i + 6) M2 hr (by omega) (by omega)
      · obtain ⟨v, M1, M2, c1, c2, hr⟩ := L_book (G := G) (M := M) (x := xs (i + 1)) (p := xs (i + 2)) h
        refine ev_aload_n rfl hC d_Law_law_1315 ?_
        refine ev_aload_n rfl hC d_Law_law_1316 ?_
        refine ev_iload_n rfl hC d_Law_law_1317 ?_
        refine ev_iconst (v := nI 1) rfl hC d_Law_law_1318 ?_
        refine ev_iadd hC d_Law_law_1319 ?_
        rw [nI_add]
        refine ev_sld hC hX d_Law_law_1320 (by omega) (by omega) ?_
        refine ev_aload_n rfl hC d_Law_law_1321 ?_
        refine ev_iload_n rfl hC d_Law_law_1322 ?_
        refine ev_iconst (v := nI 2) rfl hC d_Law_law_1323 ?_
        refine ev_iadd hC d_Law_law_1324 ?_
        rw [nI_add]
        refine ev_sld hC hX d_Law_law_1325 (by omega) (by omega) ?_
        refine cv_Day1 hC d_Law_law_1326 (c1) mi_Day_book ml_Law_157 im_Day_book se_Day_book rfl ⟨Nat.le_of_ble_eq_true rfl, Nat.le_of_ble_eq_true rfl⟩ ⟨Nat.le_of_ble_eq_true rfl, Nat.le_of_ble_eq_true rfl⟩ rfl rfl (Nat.le_of_ble_eq_true rfl)  ?_
        refine ev_aload_n rfl hC d_Law_law_1329 ?_
        refine ev_aload_n rfl hC d_Law_law_1330 ?_
        refine ev_iload_n rfl hC d_Law_law_1331 ?_
        refine ev_iconst (v := nI 1) rfl hC d_Law_law_1332 ?_
        refine ev_iadd hC d_Law_law_1333 ?_
        rw [nI_add]
        refine ev_sld hC hX d_Law_law_1334 (by omega) (by omega) ?_
        refine ev_aload_n rfl hC d_Law_law_1335 ?_
        refine ev_iload_n rfl hC d_Law_law_1336 ?_
        refine ev_iconst (v := nI 2) rfl hC d_Law_law_1337 ?_
        refine ev_iadd hC d_Law_law_1338 ?_
        rw [nI_add]
        refine ev_sld hC hX d_Law_law_1339 (by omega) (by omega) ?_
        refine cv_Mod1 hC d_Law_law_1340 (c2) mi_Mod_book ml_Law_160 im_Mod_book se_Mod_book rfl ⟨Nat.le_of_ble_eq_true rfl, Nat.le_of_ble_eq_true rfl⟩ ⟨Nat.le_of_ble_eq_true rfl, Nat.le_of_ble_eq_true rfl⟩ rfl rfl (Nat.le_of_ble_eq_true rfl)  ?_
        refine ev_icmp_eq 1466 hC d_Law_law_1343 rfl (fun _ => ?_) (fun h => absurd rfl h)
        refine ev_iinc rfl (by decide) (nI_6 i) hC d_Law_law_1466 ?_
        refine ev_goto 18 hC d_Law_law_1469 rfl ?_
        exact ih (i + 6) M2 hr (by omega) (by omega)
      · obtain ⟨v, M1, M2, c1, c2, hr⟩ := L_read (G := G) (M := M) (x := xs (i + 1)) (p := xs (i + 2)) h
        refine ev_aload_n rfl hC d_Law_law_1348 ?_
        refine ev_aload_n rfl hC d_Law_law_1349 ?_
        refine ev_iload_n rfl hC d_Law_law_1350 ?_
        refine ev_iconst (v := nI 1) rfl hC d_Law_law_1351 ?_
        refine ev_iadd hC d_Law_law_1352 ?_
        rw [nI_add]
        refine ev_sld hC hX d_Law_law_1353 (by omega) (by omega) ?_
        refine ev_aload_n rfl hC d_Law_law_1354 ?_
        refine ev_iload_n rfl hC d_Law_law_1355 ?_
        refine ev_iconst (v := nI 2) rfl hC d_Law_law_1356 ?_
        refine ev_iadd hC d_Law_law_1357 ?_
        rw [nI_add]
        refine ev_sld hC hX d_Law_law_1358 (by omega) (by omega) ?_
        refine cv_Day1 hC d_Law_law_1359 (c1) mi_Day_read ml_Law_161 im_Day_read se_Day_read rfl ⟨Nat.le_of_ble_eq_true rfl, Nat.le_of_ble_eq_true rfl⟩ ⟨Nat.le_of_ble_eq_true rfl, Nat.le_of_ble_eq_true rfl⟩ rfl rfl (Nat.le_of_ble_eq_true rfl)  ?_
        refine ev_aload_n rfl hC d_Law_law_1362 ?_
        refine ev_aload_n rfl hC d_Law_law_1363 ?_
        refine ev_iload_n rfl hC d_Law_law_1364 ?_
        refine ev_iconst (v := nI 1) rfl hC d_Law_law_1365 ?_
        refine ev_iadd hC d_Law_law_1366 ?_
        rw [nI_add]
        refine ev_sld hC hX d_Law_law_1367 (by omega) (by omega) ?_
        refine ev_aload_n rfl hC d_Law_law_1368 ?_
        refine ev_iload_n rfl hC d_Law_law_1369 ?_
        refine ev_iconst (v := nI 2) rfl hC d_Law_law_1370 ?_
        refine ev_iadd hC d_Law_law_1371 ?_
        rw [nI_add]
        refine ev_sld hC hX d_Law_law_1372 (by omega) (by omega) ?_
        refine cv_Mod1 hC d_Law_law_1373 (c2) mi_Mod_read ml_Law_164 im_Mod_read se_Mod_read rfl ⟨Nat.le_of_ble_eq_true rfl, Nat.le_of_ble_eq_true rfl⟩ ⟨Nat.le_of_ble_eq_true rfl, Nat.le_of_ble_eq_true rfl⟩ rfl rfl (Nat.le_of_ble_eq_true rfl)  ?_
        refine ev_icmp_eq 1466 hC d_Law_law_1376 rfl (fun _ => ?_) (fun h => absurd rfl h)
        refine ev_iinc rfl (by decide) (nI_6 i) hC d_Law_law_1466 ?_
        refine ev_goto 18 hC d_Law_law_1469 rfl ?_
        exact ih (i + 6) M2 hr (by omega) (by omega)
      · obtain ⟨v, M1, M2, c1, c2, hr⟩ := L_image (G := G) (M := M)  h
        refine ev_aload_n rfl hC d_Law_law_1381 ?_
        refine cv_Day1 hC d_Law_law_1382 (c1) mi_Day_image ml_Law_165 im_Day_image se_Day_image rfl ⟨Nat.le_of_ble_eq_true rfl, Nat.le_of_ble_eq_true rfl⟩ ⟨Nat.le_of_ble_eq_true rfl, Nat.le_of_ble_eq_true rfl⟩ rfl rfl (Nat.le_of_ble_eq_true rfl)  ?_
        refine ev_aload_n rfl hC d_Law_law_1385 ?_
        refine cv_Mod1 hC d_Law_law_1386 (c2) mi_Mod_image ml_Law_168 im_Mod_image se_Mod_image rfl ⟨Nat.le_of_ble_eq_true rfl, Nat.le_of_ble_eq_true rfl⟩ ⟨Nat.le_of_ble_eq_true rfl, Nat.le_of_ble_eq_true rfl⟩ rfl rfl (Nat.le_of_ble_eq_true rfl)  ?_
        refine ev_icmp_eq 1466 hC d_Law_law_1389 rfl (fun _ => ?_) (fun h => absurd rfl h)
        refine ev_iinc rfl (by decide) (nI_6 i) hC d_Law_law_1466 ?_
        refine ev_goto 18 hC d_Law_law_1469 rfl ?_
        exact ih (i + 6) M2 hr (by omega) (by omega)
      · obtain ⟨v, M1, M2, c1, c2, hr⟩ := L_undo (G := G) (M := M)  h
        refine ev_aload_n rfl hC d_Law_law_1394 ?_
        refine cv_Day1 hC d_Law_law_1395 (c1) mi_Day_undo ml_Law_169 im_Day_undo se_Day_undo rfl ⟨Nat.le_of_ble_eq_true rfl, Nat.le_of_ble_eq_true rfl⟩ ⟨Nat.le_of_ble_eq_true rfl, Nat.le_of_ble_eq_true rfl⟩ rfl rfl (Nat.le_of_ble_eq_true rfl)  ?_
        refine ev_aload_n rfl hC d_Law_law_1398 ?_
        refine cv_Mod1 hC d_Law_law_1399 (c2) mi_Mod_undo ml_Law_172 im_Mod_undo se_Mod_undo rfl ⟨Nat.le_of_ble_eq_true rfl, Nat.le_of_ble_eq_true rfl⟩ ⟨Nat.le_of_ble_eq_true rfl, Nat.le_of_ble_eq_true rfl⟩ rfl rfl (Nat.le_of_ble_eq_true rfl)  ?_
        refine ev_icmp_eq 1466 hC d_Law_law_1402 rfl (fun _ => ?_) (fun h => absurd rfl h)
        refine ev_iinc rfl (by decide) (nI_6 i) hC d_Law_law_1466 ?_
        refine ev_goto 18 hC d_Law_law_1469 rfl ?_
        exact ih (i + 6) M2 hr (by omega) (by omega)
      · obtain ⟨v, M1, M2, c1, c2, hr⟩ := L_tear (G := G) (M := M)  h
        refine ev_aload_n rfl hC d_Law_law_1407 ?_
        refine cv_Day1 hC d_Law_law_1408 (c1) mi_Day_tear ml_Law_173 im_Day_tear se_Day_tear rfl ⟨Nat.le_of_ble_eq_true rfl, Nat.le_of_ble_eq_true rfl⟩ ⟨Nat.le_of_ble_eq_true rfl, Nat.le_of_ble_eq_true rfl⟩ rfl rfl (Nat.le_of_ble_eq_true rfl)  ?_
        refine ev_aload_n rfl hC d_Law_law_1411 ?_
        refine cv_Mod1 hC d_Law_law_1412 (c2) mi_Mod_tear ml_Law_176 im_Mod_tear se_Mod_tear rfl ⟨Nat.le_of_ble_eq_true rfl, Nat.le_of_ble_eq_true rfl⟩ ⟨Nat.le_of_ble_eq_true rfl, Nat.le_of_ble_eq_true rfl⟩ rfl rfl (Nat.le_of_ble_eq_true rfl)  ?_
        refine ev_icmp_eq 1466 hC d_Law_law_1415 rfl (fun _ => ?_) (fun h => absurd rfl h)
        refine ev_iinc rfl (by decide) (nI_6 i) hC d_Law_law_1466 ?_
        refine ev_goto 18 hC d_Law_law_1469 rfl ?_
        exact ih (i + 6) M2 hr (by omega) (by omega)
      · obtain ⟨v, M1, M2, c1, c2, hr⟩ := L_count (G := G) (M := M) (w := xs (i + 1)) h
        refine ev_aload_n rfl hC d_Law_law_1420 ?_
        refine ev_aload_n rfl hC d_Law_law_1421 ?_
        refine ev_iload_n rfl hC d_Law_law_1422 ?_
        refine ev_iconst (v := nI 1) rfl hC d_Law_law_1423 ?_
        refine ev_iadd hC d_Law_law_1424 ?_
        rw [nI_add]
        refine ev_sld hC hX d_Law_law_1425 (by omega) (by omega) ?_
        refine cv_Day1 hC d_Law_law_1426 (c1) mi_Day_count ml_Law_177 im_Day_count se_Day_count rfl ⟨Nat.le_of_ble_eq_true rfl, Nat.le_of_ble_eq_true rfl⟩ ⟨Nat.le_of_ble_eq_true rfl, Nat.le_of_ble_eq_true rfl⟩ rfl rfl (Nat.le_of_ble_eq_true rfl)  ?_
        refine ev_aload_n rfl hC d_Law_law_1429 ?_
        refine ev_aload_n rfl hC d_Law_law_1430 ?_
        refine ev_iload_n rfl hC d_Law_law_1431 ?_
        refine ev_iconst (v := nI 1) rfl hC d_Law_law_1432 ?_
        refine ev_iadd hC d_Law_law_1433 ?_
        rw [nI_add]
        refine ev_sld hC hX d_Law_law_1434 (by omega) (by omega) ?_
        refine cv_Mod1 hC d_Law_law_1435 (c2) mi_Mod_count ml_Law_180 im_Mod_count se_Mod_count rfl ⟨Nat.le_of_ble_eq_true rfl, Nat.le_of_ble_eq_true rfl⟩ ⟨Nat.le_of_ble_eq_true rfl, Nat.le_of_ble_eq_true rfl⟩ rfl rfl (Nat.le_of_ble_eq_true rfl)  ?_
        refine ev_icmp_eq 1466 hC d_Law_law_1438 rfl (fun _ => ?_) (fun h => absurd rfl h)
        refine ev_iinc rfl (by decide) (nI_6 i) hC d_Law_law_1466 ?_
        refine ev_goto 18 hC d_Law_law_1469 rfl ?_
        exact ih (i + 6) M2 hr (by omega) (by omega)
      · obtain ⟨v, M1, M2, c1, c2, hr⟩ := L_status (G := G) (M := M) (w := xs (i + 1)) h
        refine ev_aload_n rfl hC d_Law_law_1443 ?_
        refine ev_aload_n rfl hC d_Law_law_1444 ?_
        refine ev_iload_n rfl hC d_Law_law_1445 ?_
        refine ev_iconst (v := nI 1) rfl hC d_Law_law_1446 ?_
        refine ev_iadd hC d_Law_law_1447 ?_
        rw [nI_add]
        refine ev_sld hC hX d_Law_law_1448 (by omega) (by omega) ?_
        refine cv_Day1 hC d_Law_law_1449 (c1) mi_Day_status ml_Law_181 im_Day_status se_Day_status rfl ⟨Nat.le_of_ble_eq_true rfl, Nat.le_of_ble_eq_true rfl⟩ ⟨Nat.le_of_ble_eq_true rfl, Nat.le_of_ble_eq_true rfl⟩ rfl rfl (Nat.le_of_ble_eq_true rfl)  ?_
        refine ev_aload_n rfl hC d_Law_law_1452 ?_
        refine ev_aload_n rfl hC d_Law_law_1453 ?_
        refine ev_iload_n rfl hC d_Law_law_1454 ?_
        refine ev_iconst (v := nI 1) rfl hC d_Law_law_1455 ?_
        refine ev_iadd hC d_Law_law_1456 ?_
        rw [nI_add]
        refine ev_sld hC hX d_Law_law_1457 (by omega) (by omega) ?_
        refine cv_Mod1 hC d_Law_law_1458 (c2) mi_Mod_status ml_Law_184 im_Mod_status se_Mod_status rfl ⟨Nat.le_of_ble_eq_true rfl, Nat.le_of_ble_eq_true rfl⟩ ⟨Nat.le_of_ble_eq_true rfl, Nat.le_of_ble_eq_true rfl⟩ rfl rfl (Nat.le_of_ble_eq_true rfl)  ?_
        refine ev_icmp_eq 1466 hC d_Law_law_1461 rfl (fun _ => ?_) (fun h => absurd rfl h)
        refine ev_iinc rfl (by decide) (nI_6 i) hC d_Law_law_1466 ?_
        refine ev_goto 18 hC d_Law_law_1469 rfl ?_
        exact ih (i + 6) M2 hr (by omega) (by omega)

set_option maxHeartbeats 4000000 in
set_option maxRecDepth 20000 in
theorem law_start {G : ex_G} {C : ex_C} {b N : Nat} {xs : Nat → Int32} (hN : N ≤ 3072) (hX : Sc G C b N xs) (hC : Cx G C Y_Law_law room_1) (hfin : ∀ (L : List (Option Value)) (es : List va_E), Ev G C Y_Law_law 1473 L [.int 1] 83 1843 es) : Ev G C Y_Law_law 0 [some (.ref b)] [] 0 0 [] := by
  refine Ev.to (es2 := ([] : List va_E) ++ []) ?_ rfl rfl rfl
  refine nw_new (n := 0) (ci := 6) (N0 := "DayBehind") (T := fx_Day) (NF := 8) (fs := [.null, .null, .null, .int 0, .null, .null, .null, .null]) (m := 0) (cl2 := 1) (sl2 := 8) (l2 := [.inr (6, [.null, .null, .null, .int 0, .null, .null, .null, .null])]) rfl tx_Day tk_Day hC d_Law_law_0 rfl iy_Day kc_Law_7 is_Day ii_Day df_Day rfl (by omega) rfl rfl rfl ⟨Nat.le_of_ble_eq_true rfl, Nat.le_of_ble_eq_true rfl⟩ ?_
  refine ev_dup rfl hC d_Law_law_3 ?_
  refine ev_callI (j := 0 + 0) (As := []) hC d_Law_law_4 c_Day_init mi_Day_init rfl rfl ml_Law_9 im_Day_init ⟨Nat.le_of_ble_eq_true rfl, Nat.le_of_ble_eq_true rfl⟩ ⟨Nat.le_of_ble_eq_true rfl, Nat.le_of_ble_eq_true rfl⟩ rfl rfl (Nat.le_of_ble_eq_true rfl) ?_
  refine ev_astore_n (by decide) hC d_Law_law_7 ?_
  refine Ev.to (es2 := cDay G ++ []) ?_ rfl rfl (List.append_nil _).symm
  refine nw_new (n := 71) (ci := 7) (N0 := "DayBehindModel") (T := fx_Mod) (NF := 23) (fs := [.null, .null, .null, .int 0, .null, .int 0, .int 0, .null, .int 0, .int 0, .int 0, .int 0, .int 0, .int 0, .null, .null, .int 0, .int 0, .int 0, .null, .null, .null, .null]) (m := 0) (cl2 := 72) (sl2 := 649) (l2 := [.inr (7, [.null, .null, .null, .int 0, .null, .int 0, .int 0, .null, .int 0, .int 0, .int 0, .int 0, .int 0, .int 0, .null, .null, .int 0, .int 0, .int 0, .null, .null, .null, .null])]) rfl tx_Mod tk_Mod hC d_Law_law_8 rfl iy_Mod kc_Law_10 is_Mod ii_Mod df_Mod rfl (by omega) rfl rfl rfl ⟨Nat.le_of_ble_eq_true rfl, Nat.le_of_ble_eq_true rfl⟩ ?_
  refine ev_dup rfl hC d_Law_law_11 ?_
  refine ev_callI (j := 71 + 0) (As := []) hC d_Law_law_12 (c_Mod_init (pre := cDay G) (n := 71) rfl (by decide)) mi_Mod_init rfl rfl ml_Law_12 im_Mod_init ⟨Nat.le_of_ble_eq_true rfl, Nat.le_of_ble_eq_true rfl⟩ ⟨Nat.le_of_ble_eq_true rfl, Nat.le_of_ble_eq_true rfl⟩ rfl rfl (Nat.le_of_ble_eq_true rfl) ?_
  refine Ev.to (es2 := ce G M0) ?_ rfl rfl (made_eq G)
  refine ev_astore_n (by decide) hC d_Law_law_15 ?_
  refine ev_iconst (v := nI 0) rfl hC d_Law_law_16 ?_
  refine ev_istore_n (by decide) hC d_Law_law_17 ?_
  exact law_loop hN hX hC hfin 513 0 M0 Rel_M0 (by omega) (by omega)

