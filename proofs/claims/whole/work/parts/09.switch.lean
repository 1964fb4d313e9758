section Sw
variable {G : ex_G} {C : ex_C} {R0 : Room} {cl sl : Nat} {L : List (Option Value)} {S : List Value} {es : List va_E}
theorem sw_of {x : Int32} {k : Nat} (hk : k < 2 ^ 31) (h : x.toInt = (k : Int)) : x = nI k := Int32.toInt_inj.mp (h.trans (nI_toInt hk).symm)
theorem sx_Day_eventOf_26 {x : Int32} (hC : Cx G C Y_Day_eventOf R0) (kd : (x.toInt < 0 ∨ 5 < x.toInt) → Ev G C Y_Day_eventOf 120 L S cl sl es) (k0 : x = nI 0 → Ev G C Y_Day_eventOf 64 L S cl sl es) (k1 : x = nI 1 → Ev G C Y_Day_eventOf 69 L S cl sl es) (k2 : x = nI 2 → Ev G C Y_Day_eventOf 74 L S cl sl es) (k3 : x = nI 3 → Ev G C Y_Day_eventOf 87 L S cl sl es) (k4 : x = nI 4 → Ev G C Y_Day_eventOf 96 L S cl sl es) (k5 : x = nI 5 → Ev G C Y_Day_eventOf 108 L S cl sl es) : Ev G C Y_Day_eventOf 26 L (.int x :: S) cl sl es := by
  by_cases h : x.toInt < 0 ∨ 5 < x.toInt
  · exact ev_tabOut 120 hC d_Day_eventOf_26 h rfl (kd h)
  · rcases (by omega : x.toInt = ((0 : Nat) : Int) ∨ x.toInt = ((1 : Nat) : Int) ∨ x.toInt = ((2 : Nat) : Int) ∨ x.toInt = ((3 : Nat) : Int) ∨ x.toInt = ((4 : Nat) : Int) ∨ x.toInt = ((5 : Nat) : Int)) with e | e | e | e | e | e
    · exact ev_tabIn 64 hC d_Day_eventOf_26 (by omega) (by omega) (by rw [e]; rfl) rfl (k0 (sw_of (by omega) e))
    · exact ev_tabIn 69 hC d_Day_eventOf_26 (by omega) (by omega) (by rw [e]; rfl) rfl (k1 (sw_of (by omega) e))
    · exact ev_tabIn 74 hC d_Day_eventOf_26 (by omega) (by omega) (by rw [e]; rfl) rfl (k2 (sw_of (by omega) e))
    · exact ev_tabIn 87 hC d_Day_eventOf_26 (by omega) (by omega) (by rw [e]; rfl) rfl (k3 (sw_of (by omega) e))
    · exact ev_tabIn 96 hC d_Day_eventOf_26 (by omega) (by omega) (by rw [e]; rfl) rfl (k4 (sw_of (by omega) e))
    · exact ev_tabIn 108 hC d_Day_eventOf_26 (by omega) (by omega) (by rw [e]; rfl) rfl (k5 (sw_of (by omega) e))
theorem sx_Day_of_26 {x : Int32} (hC : Cx G C Y_Day_of R0) (kd : (x.toInt < 0 ∨ 6 < x.toInt) → Ev G C Y_Day_of 103 L S cl sl es) (k0 : x = nI 0 → Ev G C Y_Day_of 68 L S cl sl es) (k1 : x = nI 1 → Ev G C Y_Day_of 73 L S cl sl es) (k2 : x = nI 2 → Ev G C Y_Day_of 78 L S cl sl es) (k3 : x = nI 3 → Ev G C Y_Day_of 83 L S cl sl es) (k4 : x = nI 4 → Ev G C Y_Day_of 88 L S cl sl es) (k5 : x = nI 5 → Ev G C Y_Day_of 93 L S cl sl es) (k6 : x = nI 6 → Ev G C Y_Day_of 98 L S cl sl es) : Ev G C Y_Day_of 26 L (.int x :: S) cl sl es := by
  by_cases h : x.toInt < 0 ∨ 6 < x.toInt
  · exact ev_tabOut 103 hC d_Day_of_26 h rfl (kd h)
  · rcases (by omega : x.toInt = ((0 : Nat) : Int) ∨ x.toInt = ((1 : Nat) : Int) ∨ x.toInt = ((2 : Nat) : Int) ∨ x.toInt = ((3 : Nat) : Int) ∨ x.toInt = ((4 : Nat) : Int) ∨ x.toInt = ((5 : Nat) : Int) ∨ x.toInt = ((6 : Nat) : Int)) with e | e | e | e | e | e | e
    · exact ev_tabIn 68 hC d_Day_of_26 (by omega) (by omega) (by rw [e]; rfl) rfl (k0 (sw_of (by omega) e))
    · exact ev_tabIn 73 hC d_Day_of_26 (by omega) (by omega) (by rw [e]; rfl) rfl (k1 (sw_of (by omega) e))
    · exact ev_tabIn 78 hC d_Day_of_26 (by omega) (by omega) (by rw [e]; rfl) rfl (k2 (sw_of (by omega) e))
    · exact ev_tabIn 83 hC d_Day_of_26 (by omega) (by omega) (by rw [e]; rfl) rfl (k3 (sw_of (by omega) e))
    · exact ev_tabIn 88 hC d_Day_of_26 (by omega) (by omega) (by rw [e]; rfl) rfl (k4 (sw_of (by omega) e))
    · exact ev_tabIn 93 hC d_Day_of_26 (by omega) (by omega) (by rw [e]; rfl) rfl (k5 (sw_of (by omega) e))
    · exact ev_tabIn 98 hC d_Day_of_26 (by omega) (by omega) (by rw [e]; rfl) rfl (k6 (sw_of (by omega) e))
theorem sx_Day_set_36 {x : Int32} (hC : Cx G C Y_Day_set R0) (kd : (x.toInt < 1 ∨ 4 < x.toInt) → Ev G C Y_Day_set 132 L S cl sl es) (k1 : x = nI 1 → Ev G C Y_Day_set 68 L S cl sl es) (k2 : x = nI 2 → Ev G C Y_Day_set 84 L S cl sl es) (k3 : x = nI 3 → Ev G C Y_Day_set 100 L S cl sl es) (k4 : x = nI 4 → Ev G C Y_Day_set 116 L S cl sl es) : Ev G C Y_Day_set 36 L (.int x :: S) cl sl es := by
  by_cases h : x.toInt < 1 ∨ 4 < x.toInt
  · exact ev_tabOut 132 hC d_Day_set_36 h rfl (kd h)
  · rcases (by omega : x.toInt = ((1 : Nat) : Int) ∨ x.toInt = ((2 : Nat) : Int) ∨ x.toInt = ((3 : Nat) : Int) ∨ x.toInt = ((4 : Nat) : Int)) with e | e | e | e
    · exact ev_tabIn 68 hC d_Day_set_36 (by omega) (by omega) (by rw [e]; rfl) rfl (k1 (sw_of (by omega) e))
    · exact ev_tabIn 84 hC d_Day_set_36 (by omega) (by omega) (by rw [e]; rfl) rfl (k2 (sw_of (by omega) e))
    · exact ev_tabIn 100 hC d_Day_set_36 (by omega) (by omega) (by rw [e]; rfl) rfl (k3 (sw_of (by omega) e))
    · exact ev_tabIn 116 hC d_Day_set_36 (by omega) (by omega) (by rw [e]; rfl) rfl (k4 (sw_of (by omega) e))
theorem sx_Day_maySet_1 {x : Int32} (hC : Cx G C Y_Day_maySet R0) (kd : (x.toInt < 1 ∨ 6 < x.toInt) → Ev G C Y_Day_maySet 113 L S cl sl es) (k1 : x = nI 1 → Ev G C Y_Day_maySet 40 L S cl sl es) (k2 : x = nI 2 → Ev G C Y_Day_maySet 55 L S cl sl es) (k3 : x = nI 3 → Ev G C Y_Day_maySet 72 L S cl sl es) (k4 : x = nI 4 → Ev G C Y_Day_maySet 72 L S cl sl es) (k5 : x = nI 5 → Ev G C Y_Day_maySet 113 L S cl sl es) (k6 : x = nI 6 → Ev G C Y_Day_maySet 88 L S cl sl es) : Ev G C Y_Day_maySet 1 L (.int x :: S) cl sl es := by
  by_cases h : x.toInt < 1 ∨ 6 < x.toInt
  · exact ev_tabOut 113 hC d_Day_maySet_1 h rfl (kd h)
  · rcases (by omega : x.toInt = ((1 : Nat) : Int) ∨ x.toInt = ((2 : Nat) : Int) ∨ x.toInt = ((3 : Nat) : Int) ∨ x.toInt = ((4 : Nat) : Int) ∨ x.toInt = ((5 : Nat) : Int) ∨ x.toInt = ((6 : Nat) : Int)) with e | e | e | e | e | e
    · exact ev_tabIn 40 hC d_Day_maySet_1 (by omega) (by omega) (by rw [e]; rfl) rfl (k1 (sw_of (by omega) e))
    · exact ev_tabIn 55 hC d_Day_maySet_1 (by omega) (by omega) (by rw [e]; rfl) rfl (k2 (sw_of (by omega) e))
    · exact ev_tabIn 72 hC d_Day_maySet_1 (by omega) (by omega) (by rw [e]; rfl) rfl (k3 (sw_of (by omega) e))
    · exact ev_tabIn 72 hC d_Day_maySet_1 (by omega) (by omega) (by rw [e]; rfl) rfl (k4 (sw_of (by omega) e))
    · exact ev_tabIn 113 hC d_Day_maySet_1 (by omega) (by omega) (by rw [e]; rfl) rfl (k5 (sw_of (by omega) e))
    · exact ev_tabIn 88 hC d_Day_maySet_1 (by omega) (by omega) (by rw [e]; rfl) rfl (k6 (sw_of (by omega) e))
theorem sx_Kinds_gain_52 {x : Int32} (hC : Cx G C Y_Kinds_gain R0) (kd : (x.toInt < 1 ∨ 5 < x.toInt) → Ev G C Y_Kinds_gain 97 L S cl sl es) (k1 : x = nI 1 → Ev G C Y_Kinds_gain 88 L S cl sl es) (k2 : x = nI 2 → Ev G C Y_Kinds_gain 91 L S cl sl es) (k3 : x = nI 3 → Ev G C Y_Kinds_gain 97 L S cl sl es) (k4 : x = nI 4 → Ev G C Y_Kinds_gain 97 L S cl sl es) (k5 : x = nI 5 → Ev G C Y_Kinds_gain 94 L S cl sl es) : Ev G C Y_Kinds_gain 52 L (.int x :: S) cl sl es := by
  by_cases h : x.toInt < 1 ∨ 5 < x.toInt
  · exact ev_tabOut 97 hC d_Kinds_gain_52 h rfl (kd h)
  · rcases (by omega : x.toInt = ((1 : Nat) : Int) ∨ x.toInt = ((2 : Nat) : Int) ∨ x.toInt = ((3 : Nat) : Int) ∨ x.toInt = ((4 : Nat) : Int) ∨ x.toInt = ((5 : Nat) : Int)) with e | e | e | e | e
    · exact ev_tabIn 88 hC d_Kinds_gain_52 (by omega) (by omega) (by rw [e]; rfl) rfl (k1 (sw_of (by omega) e))
    · exact ev_tabIn 91 hC d_Kinds_gain_52 (by omega) (by omega) (by rw [e]; rfl) rfl (k2 (sw_of (by omega) e))
    · exact ev_tabIn 97 hC d_Kinds_gain_52 (by omega) (by omega) (by rw [e]; rfl) rfl (k3 (sw_of (by omega) e))
    · exact ev_tabIn 97 hC d_Kinds_gain_52 (by omega) (by omega) (by rw [e]; rfl) rfl (k4 (sw_of (by omega) e))
    · exact ev_tabIn 94 hC d_Kinds_gain_52 (by omega) (by omega) (by rw [e]; rfl) rfl (k5 (sw_of (by omega) e))
theorem sx_Day_now_1 {x : Int32} (hC : Cx G C Y_Day_now R0) (kd : (x.toInt < 0 ∨ 5 < x.toInt) → Ev G C Y_Day_now 91 L S cl sl es) (k0 : x = nI 0 → Ev G C Y_Day_now 40 L S cl sl es) (k1 : x = nI 1 → Ev G C Y_Day_now 48 L S cl sl es) (k2 : x = nI 2 → Ev G C Y_Day_now 59 L S cl sl es) (k3 : x = nI 3 → Ev G C Y_Day_now 67 L S cl sl es) (k4 : x = nI 4 → Ev G C Y_Day_now 75 L S cl sl es) (k5 : x = nI 5 → Ev G C Y_Day_now 83 L S cl sl es) : Ev G C Y_Day_now 1 L (.int x :: S) cl sl es := by
  by_cases h : x.toInt < 0 ∨ 5 < x.toInt
  · exact ev_tabOut 91 hC d_Day_now_1 h rfl (kd h)
  · rcases (by omega : x.toInt = ((0 : Nat) : Int) ∨ x.toInt = ((1 : Nat) : Int) ∨ x.toInt = ((2 : Nat) : Int) ∨ x.toInt = ((3 : Nat) : Int) ∨ x.toInt = ((4 : Nat) : Int) ∨ x.toInt = ((5 : Nat) : Int)) with e | e | e | e | e | e
    · exact ev_tabIn 40 hC d_Day_now_1 (by omega) (by omega) (by rw [e]; rfl) rfl (k0 (sw_of (by omega) e))
    · exact ev_tabIn 48 hC d_Day_now_1 (by omega) (by omega) (by rw [e]; rfl) rfl (k1 (sw_of (by omega) e))
    · exact ev_tabIn 59 hC d_Day_now_1 (by omega) (by omega) (by rw [e]; rfl) rfl (k2 (sw_of (by omega) e))
    · exact ev_tabIn 67 hC d_Day_now_1 (by omega) (by omega) (by rw [e]; rfl) rfl (k3 (sw_of (by omega) e))
    · exact ev_tabIn 75 hC d_Day_now_1 (by omega) (by omega) (by rw [e]; rfl) rfl (k4 (sw_of (by omega) e))
    · exact ev_tabIn 83 hC d_Day_now_1 (by omega) (by omega) (by rw [e]; rfl) rfl (k5 (sw_of (by omega) e))
theorem sx_Day_on_58 {x : Int32} (hC : Cx G C Y_Day_on R0) (kd : (x.toInt < 0 ∨ 2 < x.toInt) → Ev G C Y_Day_on 102 L S cl sl es) (k0 : x = nI 0 → Ev G C Y_Day_on 84 L S cl sl es) (k1 : x = nI 1 → Ev G C Y_Day_on 90 L S cl sl es) (k2 : x = nI 2 → Ev G C Y_Day_on 96 L S cl sl es) : Ev G C Y_Day_on 58 L (.int x :: S) cl sl es := by
  by_cases h : x.toInt < 0 ∨ 2 < x.toInt
  · exact ev_tabOut 102 hC d_Day_on_58 h rfl (kd h)
  · rcases (by omega : x.toInt = ((0 : Nat) : Int) ∨ x.toInt = ((1 : Nat) : Int) ∨ x.toInt = ((2 : Nat) : Int)) with e | e | e
    · exact ev_tabIn 84 hC d_Day_on_58 (by omega) (by omega) (by rw [e]; rfl) rfl (k0 (sw_of (by omega) e))
    · exact ev_tabIn 90 hC d_Day_on_58 (by omega) (by omega) (by rw [e]; rfl) rfl (k1 (sw_of (by omega) e))
    · exact ev_tabIn 96 hC d_Day_on_58 (by omega) (by omega) (by rw [e]; rfl) rfl (k2 (sw_of (by omega) e))
theorem sx_Text_nameOf_1 {x : Int32} (hC : Cx G C Y_Text_nameOf R0) (kd : (x.toInt < 1 ∨ 5 < x.toInt) → Ev G C Y_Text_nameOf 51 L S cl sl es) (k1 : x = nI 1 → Ev G C Y_Text_nameOf 36 L S cl sl es) (k2 : x = nI 2 → Ev G C Y_Text_nameOf 39 L S cl sl es) (k3 : x = nI 3 → Ev G C Y_Text_nameOf 42 L S cl sl es) (k4 : x = nI 4 → Ev G C Y_Text_nameOf 45 L S cl sl es) (k5 : x = nI 5 → Ev G C Y_Text_nameOf 48 L S cl sl es) : Ev G C Y_Text_nameOf 1 L (.int x :: S) cl sl es := by
  by_cases h : x.toInt < 1 ∨ 5 < x.toInt
  · exact ev_tabOut 51 hC d_Text_nameOf_1 h rfl (kd h)
  · rcases (by omega : x.toInt = ((1 : Nat) : Int) ∨ x.toInt = ((2 : Nat) : Int) ∨ x.toInt = ((3 : Nat) : Int) ∨ x.toInt = ((4 : Nat) : Int) ∨ x.toInt = ((5 : Nat) : Int)) with e | e | e | e | e
    · exact ev_tabIn 36 hC d_Text_nameOf_1 (by omega) (by omega) (by rw [e]; rfl) rfl (k1 (sw_of (by omega) e))
    · exact ev_tabIn 39 hC d_Text_nameOf_1 (by omega) (by omega) (by rw [e]; rfl) rfl (k2 (sw_of (by omega) e))
    · exact ev_tabIn 42 hC d_Text_nameOf_1 (by omega) (by omega) (by rw [e]; rfl) rfl (k3 (sw_of (by omega) e))
    · exact ev_tabIn 45 hC d_Text_nameOf_1 (by omega) (by omega) (by rw [e]; rfl) rfl (k4 (sw_of (by omega) e))
    · exact ev_tabIn 48 hC d_Text_nameOf_1 (by omega) (by omega) (by rw [e]; rfl) rfl (k5 (sw_of (by omega) e))
theorem sx_Day_count_1 {x : Int32} (hC : Cx G C Y_Day_count R0) (kd : (x.toInt < 0 ∨ 3 < x.toInt) → Ev G C Y_Day_count 64 L S cl sl es) (k0 : x = nI 0 → Ev G C Y_Day_count 32 L S cl sl es) (k1 : x = nI 1 → Ev G C Y_Day_count 40 L S cl sl es) (k2 : x = nI 2 → Ev G C Y_Day_count 48 L S cl sl es) (k3 : x = nI 3 → Ev G C Y_Day_count 56 L S cl sl es) : Ev G C Y_Day_count 1 L (.int x :: S) cl sl es := by
  by_cases h : x.toInt < 0 ∨ 3 < x.toInt
  · exact ev_tabOut 64 hC d_Day_count_1 h rfl (kd h)
  · rcases (by omega : x.toInt = ((0 : Nat) : Int) ∨ x.toInt = ((1 : Nat) : Int) ∨ x.toInt = ((2 : Nat) : Int) ∨ x.toInt = ((3 : Nat) : Int)) with e | e | e | e
    · exact ev_tabIn 32 hC d_Day_count_1 (by omega) (by omega) (by rw [e]; rfl) rfl (k0 (sw_of (by omega) e))
    · exact ev_tabIn 40 hC d_Day_count_1 (by omega) (by omega) (by rw [e]; rfl) rfl (k1 (sw_of (by omega) e))
    · exact ev_tabIn 48 hC d_Day_count_1 (by omega) (by omega) (by rw [e]; rfl) rfl (k2 (sw_of (by omega) e))
    · exact ev_tabIn 56 hC d_Day_count_1 (by omega) (by omega) (by rw [e]; rfl) rfl (k3 (sw_of (by omega) e))
theorem sx_Mod_eventOf_39 {x : Int32} (hC : Cx G C Y_Mod_eventOf R0) (kd : (x.toInt < 3 ∨ 5 < x.toInt) → Ev G C Y_Mod_eventOf 99 L S cl sl es) (k3 : x = nI 3 → Ev G C Y_Mod_eventOf 64 L S cl sl es) (k4 : x = nI 4 → Ev G C Y_Mod_eventOf 70 L S cl sl es) (k5 : x = nI 5 → Ev G C Y_Mod_eventOf 76 L S cl sl es) : Ev G C Y_Mod_eventOf 39 L (.int x :: S) cl sl es := by
  by_cases h : x.toInt < 3 ∨ 5 < x.toInt
  · exact ev_tabOut 99 hC d_Mod_eventOf_39 h rfl (kd h)
  · rcases (by omega : x.toInt = ((3 : Nat) : Int) ∨ x.toInt = ((4 : Nat) : Int) ∨ x.toInt = ((5 : Nat) : Int)) with e | e | e
    · exact ev_tabIn 64 hC d_Mod_eventOf_39 (by omega) (by omega) (by rw [e]; rfl) rfl (k3 (sw_of (by omega) e))
    · exact ev_tabIn 70 hC d_Mod_eventOf_39 (by omega) (by omega) (by rw [e]; rfl) rfl (k4 (sw_of (by omega) e))
    · exact ev_tabIn 76 hC d_Mod_eventOf_39 (by omega) (by omega) (by rw [e]; rfl) rfl (k5 (sw_of (by omega) e))
theorem sx_Mod_maySet_1 {x : Int32} (hC : Cx G C Y_Mod_maySet R0) (kd : (x.toInt < 1 ∨ 6 < x.toInt) → Ev G C Y_Mod_maySet 80 L S cl sl es) (k1 : x = nI 1 → Ev G C Y_Mod_maySet 40 L S cl sl es) (k2 : x = nI 2 → Ev G C Y_Mod_maySet 47 L S cl sl es) (k3 : x = nI 3 → Ev G C Y_Mod_maySet 56 L S cl sl es) (k4 : x = nI 4 → Ev G C Y_Mod_maySet 56 L S cl sl es) (k5 : x = nI 5 → Ev G C Y_Mod_maySet 80 L S cl sl es) (k6 : x = nI 6 → Ev G C Y_Mod_maySet 64 L S cl sl es) : Ev G C Y_Mod_maySet 1 L (.int x :: S) cl sl es := by
  by_cases h : x.toInt < 1 ∨ 6 < x.toInt
  · exact ev_tabOut 80 hC d_Mod_maySet_1 h rfl (kd h)
  · rcases (by omega : x.toInt = ((1 : Nat) : Int) ∨ x.toInt = ((2 : Nat) : Int) ∨ x.toInt = ((3 : Nat) : Int) ∨ x.toInt = ((4 : Nat) : Int) ∨ x.toInt = ((5 : Nat) : Int) ∨ x.toInt = ((6 : Nat) : Int)) with e | e | e | e | e | e
    · exact ev_tabIn 40 hC d_Mod_maySet_1 (by omega) (by omega) (by rw [e]; rfl) rfl (k1 (sw_of (by omega) e))
    · exact ev_tabIn 47 hC d_Mod_maySet_1 (by omega) (by omega) (by rw [e]; rfl) rfl (k2 (sw_of (by omega) e))
    · exact ev_tabIn 56 hC d_Mod_maySet_1 (by omega) (by omega) (by rw [e]; rfl) rfl (k3 (sw_of (by omega) e))
    · exact ev_tabIn 56 hC d_Mod_maySet_1 (by omega) (by omega) (by rw [e]; rfl) rfl (k4 (sw_of (by omega) e))
    · exact ev_tabIn 80 hC d_Mod_maySet_1 (by omega) (by omega) (by rw [e]; rfl) rfl (k5 (sw_of (by omega) e))
    · exact ev_tabIn 64 hC d_Mod_maySet_1 (by omega) (by omega) (by rw [e]; rfl) rfl (k6 (sw_of (by omega) e))
theorem sx_Mod_gainsOf_32 {x : Int32} (hC : Cx G C Y_Mod_gainsOf R0) (kd : (x.toInt < 1 ∨ 5 < x.toInt) → Ev G C Y_Mod_gainsOf 99 L S cl sl es) (k1 : x = nI 1 → Ev G C Y_Mod_gainsOf 68 L S cl sl es) (k2 : x = nI 2 → Ev G C Y_Mod_gainsOf 82 L S cl sl es) (k3 : x = nI 3 → Ev G C Y_Mod_gainsOf 99 L S cl sl es) (k4 : x = nI 4 → Ev G C Y_Mod_gainsOf 99 L S cl sl es) (k5 : x = nI 5 → Ev G C Y_Mod_gainsOf 85 L S cl sl es) : Ev G C Y_Mod_gainsOf 32 L (.int x :: S) cl sl es := by
  by_cases h : x.toInt < 1 ∨ 5 < x.toInt
  · exact ev_tabOut 99 hC d_Mod_gainsOf_32 h rfl (kd h)
  · rcases (by omega : x.toInt = ((1 : Nat) : Int) ∨ x.toInt = ((2 : Nat) : Int) ∨ x.toInt = ((3 : Nat) : Int) ∨ x.toInt = ((4 : Nat) : Int) ∨ x.toInt = ((5 : Nat) : Int)) with e | e | e | e | e
    · exact ev_tabIn 68 hC d_Mod_gainsOf_32 (by omega) (by omega) (by rw [e]; rfl) rfl (k1 (sw_of (by omega) e))
    · exact ev_tabIn 82 hC d_Mod_gainsOf_32 (by omega) (by omega) (by rw [e]; rfl) rfl (k2 (sw_of (by omega) e))
    · exact ev_tabIn 99 hC d_Mod_gainsOf_32 (by omega) (by omega) (by rw [e]; rfl) rfl (k3 (sw_of (by omega) e))
    · exact ev_tabIn 99 hC d_Mod_gainsOf_32 (by omega) (by omega) (by rw [e]; rfl) rfl (k4 (sw_of (by omega) e))
    · exact ev_tabIn 85 hC d_Mod_gainsOf_32 (by omega) (by omega) (by rw [e]; rfl) rfl (k5 (sw_of (by omega) e))
theorem sx_Mod_now_1 {x : Int32} (hC : Cx G C Y_Mod_now R0) (kd : (x.toInt < 0 ∨ 5 < x.toInt) → Ev G C Y_Mod_now 79 L S cl sl es) (k0 : x = nI 0 → Ev G C Y_Mod_now 40 L S cl sl es) (k1 : x = nI 1 → Ev G C Y_Mod_now 47 L S cl sl es) (k2 : x = nI 2 → Ev G C Y_Mod_now 57 L S cl sl es) (k3 : x = nI 3 → Ev G C Y_Mod_now 63 L S cl sl es) (k4 : x = nI 4 → Ev G C Y_Mod_now 69 L S cl sl es) (k5 : x = nI 5 → Ev G C Y_Mod_now 74 L S cl sl es) : Ev G C Y_Mod_now 1 L (.int x :: S) cl sl es := by
  by_cases h : x.toInt < 0 ∨ 5 < x.toInt
  · exact ev_tabOut 79 hC d_Mod_now_1 h rfl (kd h)
  · rcases (by omega : x.toInt = ((0 : Nat) : Int) ∨ x.toInt = ((1 : Nat) : Int) ∨ x.toInt = ((2 : Nat) : Int) ∨ x.toInt = ((3 : Nat) : Int) ∨ x.toInt = ((4 : Nat) : Int) ∨ x.toInt = ((5 : Nat) : Int)) with e | e | e | e | e | e
    · exact ev_tabIn 40 hC d_Mod_now_1 (by omega) (by omega) (by rw [e]; rfl) rfl (k0 (sw_of (by omega) e))
    · exact ev_tabIn 47 hC d_Mod_now_1 (by omega) (by omega) (by rw [e]; rfl) rfl (k1 (sw_of (by omega) e))
    · exact ev_tabIn 57 hC d_Mod_now_1 (by omega) (by omega) (by rw [e]; rfl) rfl (k2 (sw_of (by omega) e))
    · exact ev_tabIn 63 hC d_Mod_now_1 (by omega) (by omega) (by rw [e]; rfl) rfl (k3 (sw_of (by omega) e))
    · exact ev_tabIn 69 hC d_Mod_now_1 (by omega) (by omega) (by rw [e]; rfl) rfl (k4 (sw_of (by omega) e))
    · exact ev_tabIn 74 hC d_Mod_now_1 (by omega) (by omega) (by rw [e]; rfl) rfl (k5 (sw_of (by omega) e))
theorem sx_Mod_count_3 {x : Int32} (hC : Cx G C Y_Mod_count R0) (kd : (x.toInt < 0 ∨ 3 < x.toInt) → Ev G C Y_Mod_count 84 L S cl sl es) (k0 : x = nI 0 → Ev G C Y_Mod_count 32 L S cl sl es) (k1 : x = nI 1 → Ev G C Y_Mod_count 39 L S cl sl es) (k2 : x = nI 2 → Ev G C Y_Mod_count 46 L S cl sl es) (k3 : x = nI 3 → Ev G C Y_Mod_count 51 L S cl sl es) : Ev G C Y_Mod_count 3 L (.int x :: S) cl sl es := by
  by_cases h : x.toInt < 0 ∨ 3 < x.toInt
  · exact ev_tabOut 84 hC d_Mod_count_3 h rfl (kd h)
  · rcases (by omega : x.toInt = ((0 : Nat) : Int) ∨ x.toInt = ((1 : Nat) : Int) ∨ x.toInt = ((2 : Nat) : Int) ∨ x.toInt = ((3 : Nat) : Int)) with e | e | e | e
    · exact ev_tabIn 32 hC d_Mod_count_3 (by omega) (by omega) (by rw [e]; rfl) rfl (k0 (sw_of (by omega) e))
    · exact ev_tabIn 39 hC d_Mod_count_3 (by omega) (by omega) (by rw [e]; rfl) rfl (k1 (sw_of (by omega) e))
    · exact ev_tabIn 46 hC d_Mod_count_3 (by omega) (by omega) (by rw [e]; rfl) rfl (k2 (sw_of (by omega) e))
    · exact ev_tabIn 51 hC d_Mod_count_3 (by omega) (by omega) (by rw [e]; rfl) rfl (k3 (sw_of (by omega) e))
theorem sx_Law_law_33 {x : Int32} (hC : Cx G C Y_Law_law R0) (kd : (x.toInt < 0 ∨ 40 < x.toInt) → Ev G C Y_Law_law 1466 L S cl sl es) (k0 : x = nI 0 → Ev G C Y_Law_law 212 L S cl sl es) (k1 : x = nI 1 → Ev G C Y_Law_law 235 L S cl sl es) (k2 : x = nI 2 → Ev G C Y_Law_law 268 L S cl sl es) (k3 : x = nI 3 → Ev G C Y_Law_law 301 L S cl sl es) (k4 : x = nI 4 → Ev G C Y_Law_law 334 L S cl sl es) (k5 : x = nI 5 → Ev G C Y_Law_law 367 L S cl sl es) (k6 : x = nI 6 → Ev G C Y_Law_law 400 L S cl sl es) (k7 : x = nI 7 → Ev G C Y_Law_law 443 L S cl sl es) (k8 : x = nI 8 → Ev G C Y_Law_law 476 L S cl sl es) (k9 : x = nI 9 → Ev G C Y_Law_law 509 L S cl sl es) (k10 : x = nI 10 → Ev G C Y_Law_law 552 L S cl sl es) (k11 : x = nI 11 → Ev G C Y_Law_law 575 L S cl sl es) (k12 : x = nI 12 → Ev G C Y_Law_law 608 L S cl sl es) (k13 : x = nI 13 → Ev G C Y_Law_law 631 L S cl sl es) (k14 : x = nI 14 → Ev G C Y_Law_law 654 L S cl sl es) (k15 : x = nI 15 → Ev G C Y_Law_law 697 L S cl sl es) (k16 : x = nI 16 → Ev G C Y_Law_law 730 L S cl sl es) (k17 : x = nI 17 → Ev G C Y_Law_law 753 L S cl sl es) (k18 : x = nI 18 → Ev G C Y_Law_law 776 L S cl sl es) (k19 : x = nI 19 → Ev G C Y_Law_law 799 L S cl sl es) (k20 : x = nI 20 → Ev G C Y_Law_law 832 L S cl sl es) (k21 : x = nI 21 → Ev G C Y_Law_law 865 L S cl sl es) (k22 : x = nI 22 → Ev G C Y_Law_law 898 L S cl sl es) (k23 : x = nI 23 → Ev G C Y_Law_law 931 L S cl sl es) (k24 : x = nI 24 → Ev G C Y_Law_law 964 L S cl sl es) (k25 : x = nI 25 → Ev G C Y_Law_law 997 L S cl sl es) (k26 : x = nI 26 → Ev G C Y_Law_law 1020 L S cl sl es) (k27 : x = nI 27 → Ev G C Y_Law_law 1053 L S cl sl es) (k28 : x = nI 28 → Ev G C Y_Law_law 1086 L S cl sl es) (k29 : x = nI 29 → Ev G C Y_Law_law 1099 L S cl sl es) (k30 : x = nI 30 → Ev G C Y_Law_law 1112 L S cl sl es) (k31 : x = nI 31 → Ev G C Y_Law_law 1155 L S cl sl es) (k32 : x = nI 32 → Ev G C Y_Law_law 1229 L S cl sl es) (k33 : x = nI 33 → Ev G C Y_Law_law 1292 L S cl sl es) (k34 : x = nI 34 → Ev G C Y_Law_law 1315 L S cl sl es) (k35 : x = nI 35 → Ev G C Y_Law_law 1348 L S cl sl es) (k36 : x = nI 36 → Ev G C Y_Law_law 1381 L S cl sl es) (k37 : x = nI 37 → Ev G C Y_Law_law 1394 L S cl sl es) (k38 : x = nI 38 → Ev G C Y_Law_law 1407 L S cl sl es) (k39 : x = nI 39 → Ev G C Y_Law_law 1420 L S cl sl es) (k40 : x = nI 40 → Ev G C Y_Law_law 1443 L S cl sl es) : Ev G C Y_Law_law 33 L (.int x :: S) cl sl es := by
  by_cases h : x.toInt < 0 ∨ 40 < x.toInt
  · exact ev_tabOut 1466 hC d_Law_law_33 h rfl (kd h)
  · rcases (by omega : x.toInt = ((0 : Nat) : Int) ∨ x.toInt = ((1 : Nat) : Int) ∨ x.toInt = ((2 : Nat) : Int) ∨ x.toInt = ((3 : Nat) : Int) ∨ x.toInt = ((4 : Nat) : Int) ∨ x.toInt = ((5 : Nat) : Int) ∨ x.toInt = ((6 : Nat) : Int) ∨ x.toInt = ((7 : Nat) : Int) ∨ x.toInt = ((8 : Nat) : Int) ∨ x.toInt = ((9 : Nat) : Int) ∨ x.toInt = ((10 : Nat) : Int) ∨ x.toInt = ((11 : Nat) : Int) ∨ x.toInt = ((12 : Nat) : Int) ∨ x.toInt = ((13 : Nat) : Int) ∨ x.toInt = ((14 : Nat) : Int) ∨ x.toInt = ((15 : Nat) : Int) ∨ x.toInt = ((16 : Nat) : Int) ∨ x.toInt = ((17 : Nat) : Int) ∨ x.toInt = ((18 : Nat) : Int) ∨ x.toInt = ((19 : Nat) : Int) ∨ x.toInt = ((20 : Nat) : Int) ∨ x.toInt = ((21 : Nat) : Int) ∨ x.toInt = ((22 : Nat) : Int) ∨ x.toInt = ((23 : Nat) : Int) ∨ x.toInt = ((24 : Nat) : Int) ∨ x.toInt = ((25 : Nat) : Int) ∨ x.toInt = ((26 : Nat) : Int) ∨ x.toInt = ((27 : Nat) : Int) ∨ x.toInt = ((28 : Nat) : Int) ∨ x.toInt = ((29 : Nat) : Int) ∨ x.toInt = ((30 : Nat) : Int) ∨ x.toInt = ((31 : Nat) : Int) ∨ x.toInt = ((32 : Nat) : Int) ∨ x.toInt = ((33 : Nat) : Int) ∨ x.toInt = ((34 : Nat) : Int) ∨ x.toInt = ((35 : Nat) : Int) ∨ x.toInt = ((36 : Nat) : Int) ∨ x.toInt = ((37 : Nat) : Int) ∨ x.toInt = ((38 : Nat) : Int) ∨ x.toInt = ((39 : Nat) : Int) ∨ x.toInt = ((40 : Nat) : Int)) with e | e | e | e | e | e | e | e | e | e | e | e | e | e | e | e | e | e | e | e | e | e | e | e | e | e | e | e | e | e | e | e | e | e | e | e | e | e | e | e | e
    · exact ev_tabIn 212 hC d_Law_law_33 (by omega) (by omega) (by rw [e]; rfl) rfl (k0 (sw_of (by omega) e))
    · exact ev_tabIn 235 hC d_Law_law_33 (by omega) (by omega) (by rw [e]; rfl) rfl (k1 (sw_of (by omega) e))
    · exact ev_tabIn 268 hC d_Law_law_33 (by omega) (by omega) (by rw [e]; rfl) rfl (k2 (sw_of (by omega) e))
    · exact ev_tabIn 301 hC d_Law_law_33 (by omega) (by omega) (by rw [e]; rfl) rfl (k3 (sw_of (by omega) e))
    · exact ev_tabIn 334 hC d_Law_law_33 (by omega) (by omega) (by rw [e]; rfl) rfl (k4 (sw_of (by omega) e))
    · exact ev_tabIn 367 hC d_Law_law_33 (by omega) (by omega) (by rw [e]; rfl) rfl (k5 (sw_of (by omega) e))
    · exact ev_tabIn 400 hC d_Law_law_33 (by omega) (by omega) (by rw [e]; rfl) rfl (k6 (sw_of (by omega) e))
    · exact ev_tabIn 443 hC d_Law_law_33 (by omega) (by omega) (by rw [e]; rfl) rfl (k7 (sw_of (by omega) e))
    · exact ev_tabIn 476 hC d_Law_law_33 (by omega) (by omega) (by rw [e]; rfl) rfl (k8 (sw_of (by omega) e))
    · exact ev_tabIn 509 hC d_Law_law_33 (by omega) (by omega) (by rw [e]; rfl) rfl (k9 (sw_of (by omega) e))
    · exact ev_tabIn 552 hC d_Law_law_33 (by omega) (by omega) (by rw [e]; rfl) rfl (k10 (sw_of (by omega) e))
    · exact ev_tabIn 575 hC d_Law_law_33 (by omega) (by omega) (by rw [e]; rfl) rfl (k11 (sw_of (by omega) e))
    · exact ev_tabIn 608 hC d_Law_law_33 (by omega) (by omega) (by rw [e]; rfl) rfl (k12 (sw_of (by omega) e))
    · exact ev_tabIn 631 hC d_Law_law_33 (by omega) (by omega) (by rw [e]; rfl) rfl (k13 (sw_of (by omega) e))
    · exact ev_tabIn 654 hC d_Law_law_33 (by omega) (by omega) (by rw [e]; rfl) rfl (k14 (sw_of (by omega) e))
    · exact ev_tabIn 697 hC d_Law_law_33 (by omega) (by omega) (by rw [e]; rfl) rfl (k15 (sw_of (by omega) e))
    · exact ev_tabIn 730 hC d_Law_law_33 (by omega) (by omega) (by rw [e]; rfl) rfl (k16 (sw_of (by omega) e))
    · exact ev_tabIn 753 hC d_Law_law_33 (by omega) (by omega) (by rw [e]; rfl) rfl (k17 (sw_of (by omega) e))
    · exact ev_tabIn 776 hC d_Law_law_33 (by omega) (by omega) (by rw [e]; rfl) rfl (k18 (sw_of (by omega) e))
    · exact ev_tabIn 799 hC d_Law_law_33 (by omega) (by omega) (by rw [e]; rfl) rfl (k19 (sw_of (by omega) e))
    · exact ev_tabIn 832 hC d_Law_law_33 (by omega) (by omega) (by rw [e]; rfl) rfl (k20 (sw_of (by omega) e))
    · exact ev_tabIn 865 hC d_Law_law_33 (by omega) (by omega) (by rw [e]; rfl) rfl (k21 (sw_of (by omega) e))
    · exact ev_tabIn 898 hC d_Law_law_33 (by omega) (by omega) (by rw [e]; rfl) rfl (k22 (sw_of (by omega) e))
    · exact ev_tabIn 931 hC d_Law_law_33 (by omega) (by omega) (by rw [e]; rfl) rfl (k23 (sw_of (by omega) e))
    · exact ev_tabIn 964 hC d_Law_law_33 (by omega) (by omega) (by rw [e]; rfl) rfl (k24 (sw_of (by omega) e))
    · exact ev_tabIn 997 hC d_Law_law_33 (by omega) (by omega) (by rw [e]; rfl) rfl (k25 (sw_of (by omega) e))
    · exact ev_tabIn 1020 hC d_Law_law_33 (by omega) (by omega) (by rw [e]; rfl) rfl (k26 (sw_of (by omega) e))
    · exact ev_tabIn 1053 hC d_Law_law_33 (by omega) (by omega) (by rw [e]; rfl) rfl (k27 (sw_of (by omega) e))
    · exact ev_tabIn 1086 hC d_Law_law_33 (by omega) (by omega) (by rw [e]; rfl) rfl (k28 (sw_of (by omega) e))
    · exact ev_tabIn 1099 hC d_Law_law_33 (by omega) (by omega) (by rw [e]; rfl) rfl (k29 (sw_of (by omega) e))
    · exact ev_tabIn 1112 hC d_Law_law_33 (by omega) (by omega) (by rw [e]; rfl) rfl (k30 (sw_of (by omega) e))
    · exact ev_tabIn 1155 hC d_Law_law_33 (by omega) (by omega) (by rw [e]; rfl) rfl (k31 (sw_of (by omega) e))
    · exact ev_tabIn 1229 hC d_Law_law_33 (by omega) (by omega) (by rw [e]; rfl) rfl (k32 (sw_of (by omega) e))
    · exact ev_tabIn 1292 hC d_Law_law_33 (by omega) (by omega) (by rw [e]; rfl) rfl (k33 (sw_of (by omega) e))
    · exact ev_tabIn 1315 hC d_Law_law_33 (by omega) (by omega) (by rw [e]; rfl) rfl (k34 (sw_of (by omega) e))
    · exact ev_tabIn 1348 hC d_Law_law_33 (by omega) (by omega) (by rw [e]; rfl) rfl (k35 (sw_of (by omega) e))
    · exact ev_tabIn 1381 hC d_Law_law_33 (by omega) (by omega) (by rw [e]; rfl) rfl (k36 (sw_of (by omega) e))
    · exact ev_tabIn 1394 hC d_Law_law_33 (by omega) (by omega) (by rw [e]; rfl) rfl (k37 (sw_of (by omega) e))
    · exact ev_tabIn 1407 hC d_Law_law_33 (by omega) (by omega) (by rw [e]; rfl) rfl (k38 (sw_of (by omega) e))
    · exact ev_tabIn 1420 hC d_Law_law_33 (by omega) (by omega) (by rw [e]; rfl) rfl (k39 (sw_of (by omega) e))
    · exact ev_tabIn 1443 hC d_Law_law_33 (by omega) (by omega) (by rw [e]; rfl) rfl (k40 (sw_of (by omega) e))
end Sw
