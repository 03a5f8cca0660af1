theorem tl_0 (I : sI) (f c : Int32) : tl I f c 0 = I 0 := by
  funext j
  simp [tl, upI]
theorem tl_1 (I : sI) (f c : Int32) : tl I f c 1 = I 1 := by
  funext j
  simp [tl, upI]
theorem tl_4 (I : sI) (f c : Int32) : tl I f c 4 = I 4 := by
  funext j
  simp [tl, upI]
theorem pull_tl (I : sI) (O : sO) (f c : Int32) (w : Nat) : pull (tl I f c) O w = pull I O w := by
  unfold pull
  rw [tl_0, tl_1]

set_option maxHeartbeats 4000000 in
set_option maxRecDepth 100000 in
theorem c_X4_couple (l : Launch) (D : va_G) (kk : Nat → ClassId) (ad : Nat → Nat → Nat) (n : Nat) (I : sI) (O : sO) (hj : sj (xV n) ad) (hY : yI n I O) (a b : Int32) : fw_Mi l yX4_couple wsX4_couple { frames := 1, cells := 0, slots := 0, locals := 22 } 0 0 D vwCl (xT kk) (xw kk ad n I O) [.ref (ad 0 0), .int a, .int b] (fun r w1 => ∃ I1 O1, sp_couple n I O a b = (r, I1, O1) ∧ w1 = xw kk ad n I1 O1) := by
  refine fw_ofi (cc := cX4_couple) (maxL := 5) (ret := (some .int)) (by decide) rfl (Nat.le_of_ble_eq_true rfl) ?_
  intro p e s m args below meth c A ls hx hb hml hr hlocks hnm hts hown hK hP hD hA hS hl
  have hown : s.vm.findClass RX4 = some m.cls := hown
  have hl : lv_has ls 5 [(0, .ref (ad 0 0)), (1, .int a), (2, .int b)] := hl
  have in3 : ∀ w ∈ u_ws RX3 TX3 6, w ∈ wsX4_couple := by decide +kernel
  have hI := hY.1
  refine lv_aload_n hx hb dX4_couple_0 rfl (lv_at hl 0 rfl) ?_
  refine lv_iload_n hx hb dX4_couple_1 rfl (lv_at hl 1 rfl) ?_
  refine fw_callq (va_runV (As := [.int a]) (rest := []) ⟨hx, hb, hml, hown, hts⟩ (c_X4_findWagon l D kk ad n I O hj hI a _) (cwV 1 hts gX4_couple_X4_findWagon rfl rfl rfl (by decide +kernel) ⟨Nat.le_of_ble_eq_true rfl, Nat.le_of_ble_eq_true rfl⟩) (fw_preV hK hP (ci := 4) rfl (x_at0 hj)) rfl rfl hl.1 rfl (lv_room (Nat.le_of_ble_eq_true rfl)) dX4_couple_2 ⟨Nat.le_of_ble_eq_true rfl, Nat.le_of_ble_eq_true rfl⟩) hD hS hA (fun r w1 H locs hq hP hD hS => ?_)
  obtain ⟨rfl, rfl⟩ := hq
  rcases oc (fnd n a) with hf1 | ⟨i2, hf1⟩
  · refine W.eq (g2 := F0 m 5 ls [.null]) (by rw [hf1]; rfl) ?_
    refine lv_astore_nN (lv' := [(3, .null), (0, .ref (ad 0 0)), (1, .int a), (2, .int b)]) hx hb dX4_couple_5 rfl hl (by decide) rfl (fun ls hl => ?_)
    refine lv_aload_n hx hb dX4_couple_6 rfl (lv_at hl 1 rfl) ?_
    refine lv_iload_n hx hb dX4_couple_7 rfl (lv_at hl 3 rfl) ?_
    refine fw_callq (va_runV (As := [.int b]) (rest := []) ⟨hx, hb, hml, hown, hts⟩ (c_X4_findWagon l D kk ad n I O hj hI b _) (cwV 1 hts gX4_couple_X4_findWagon rfl rfl rfl (by decide +kernel) ⟨Nat.le_of_ble_eq_true rfl, Nat.le_of_ble_eq_true rfl⟩) (fw_preV hK hP (ci := 4) rfl (x_at0 hj)) rfl rfl hl.1 rfl (lv_room (Nat.le_of_ble_eq_true rfl)) dX4_couple_8 ⟨Nat.le_of_ble_eq_true rfl, Nat.le_of_ble_eq_true rfl⟩) hD hS hA (fun r w1 H locs hq hP hD hS => ?_)
    obtain ⟨rfl, rfl⟩ := hq
    rcases oc (fnd n b) with hf3 | ⟨i4, hf3⟩
    · refine W.eq (g2 := F0 m 11 ls [.null]) (by rw [hf3]; rfl) ?_
      refine lv_astoreN (lv' := [(4, .null), (3, .null), (0, .ref (ad 0 0)), (1, .int a), (2, .int b)]) hx hb dX4_couple_11 hl (by decide) rfl (fun ls hl => ?_)
      refine lv_aload_nN hx hb dX4_couple_13 rfl (lv_at hl 1 rfl) ?_
      refine lv_ifnullN (tgt := 22) hx hb dX4_couple_14 (by decide) ?_
      refine lv_bipush (v := (-101)) hx hb dX4_couple_22 (by decide) ?_
      exact fw_iret hx hb hr hlocks hK hP hD hS dX4_couple_24 ⟨_, _, by simp [sp_couple, pif_True, pif_False, hf1, hf3], rfl⟩
    · have hi4 := (fnd_lt hf3).1
      refine W.eq (g2 := F0 m 11 ls [.ref (ad 5 i4)]) (by rw [hf3]; rfl) ?_
      refine lv_astore (lv' := [(4, .ref (ad 5 i4)), (3, .null), (0, .ref (ad 0 0)), (1, .int a), (2, .int b)]) hx hb dX4_couple_11 hl (by decide) rfl (fun ls hl => ?_)
      refine lv_aload_nN hx hb dX4_couple_13 rfl (lv_at hl 1 rfl) ?_
      refine lv_ifnullN (tgt := 22) hx hb dX4_couple_14 (by decide) ?_
      refine lv_bipush (v := (-101)) hx hb dX4_couple_22 (by decide) ?_
      exact fw_iret hx hb hr hlocks hK hP hD hS dX4_couple_24 ⟨_, _, by simp [sp_couple, pif_True, pif_False, hf1, hf3], rfl⟩
  · have hi2 := (fnd_lt hf1).1
    refine W.eq (g2 := F0 m 5 ls [.ref (ad 5 i2)]) (by rw [hf1]; rfl) ?_
    refine lv_astore_n (lv' := [(3, .ref (ad 5 i2)), (0, .ref (ad 0 0)), (1, .int a), (2, .int b)]) hx hb dX4_couple_5 rfl hl (by decide) rfl (fun ls hl => ?_)
    refine lv_aload_n hx hb dX4_couple_6 rfl (lv_at hl 1 rfl) ?_
    refine lv_iload_n hx hb dX4_couple_7 rfl (lv_at hl 3 rfl) ?_
    refine fw_callq (va_runV (As := [.int b]) (rest := []) ⟨hx, hb, hml, hown, hts⟩ (c_X4_findWagon l D kk ad n I O hj hI b _) (cwV 1 hts gX4_couple_X4_findWagon rfl rfl rfl (by decide +kernel) ⟨Nat.le_of_ble_eq_true rfl, Nat.le_of_ble_eq_true rfl⟩) (fw_preV hK hP (ci := 4) rfl (x_at0 hj)) rfl rfl hl.1 rfl (lv_room (Nat.le_of_ble_eq_true rfl)) dX4_couple_8 ⟨Nat.le_of_ble_eq_true rfl, Nat.le_of_ble_eq_true rfl⟩) hD hS hA (fun r w1 H locs hq hP hD hS => ?_)
    obtain ⟨rfl, rfl⟩ := hq
    rcases oc (fnd n b) with hf5 | ⟨i6, hf5⟩
    · refine W.eq (g2 := F0 m 11 ls [.null]) (by rw [hf5]; rfl) ?_
      refine lv_astoreN (lv' := [(4, .null), (3, .ref (ad 5 i2)), (0, .ref (ad 0 0)), (1, .int a), (2, .int b)]) hx hb dX4_couple_11 hl (by decide) rfl (fun ls hl => ?_)
      refine lv_aload_n hx hb dX4_couple_13 rfl (lv_at hl 1 rfl) ?_
      refine lv_ifnull hx hb dX4_couple_14 ?_
      refine lv_aloadN hx hb dX4_couple_17 (lv_at hl 0 rfl) ?_
      refine lv_ifnonnullN hx hb dX4_couple_19 ?_
      refine lv_bipush (v := (-101)) hx hb dX4_couple_22 (by decide) ?_
      exact fw_iret hx hb hr hlocks hK hP hD hS dX4_couple_24 ⟨_, _, by simp [sp_couple, pif_True, pif_False, hf1, hf5], rfl⟩
    · have hi6 := (fnd_lt hf5).1
      refine W.eq (g2 := F0 m 11 ls [.ref (ad 5 i6)]) (by rw [hf5]; rfl) ?_
      refine lv_astore (lv' := [(4, .ref (ad 5 i6)), (3, .ref (ad 5 i2)), (0, .ref (ad 0 0)), (1, .int a), (2, .int b)]) hx hb dX4_couple_11 hl (by decide) rfl (fun ls hl => ?_)
      refine lv_aload_n hx hb dX4_couple_13 rfl (lv_at hl 1 rfl) ?_
      refine lv_ifnull hx hb dX4_couple_14 ?_
      refine lv_aload hx hb dX4_couple_17 (lv_at hl 0 rfl) ?_
      refine lv_ifnonnull (tgt := 25) hx hb dX4_couple_19 (by decide) ?_
      refine lv_aload_n hx hb dX4_couple_25 rfl (lv_at hl 1 rfl) ?_
      rcases oc (O 0 i2) with ho7 | ⟨j8, ho7⟩
      · refine fw_get (v := .null) (C := RX3) (T := TX3) (N := 6) hx hb hts in3 hown hK hP (x_at5 hj hi2) rfl 3 (by decide) (hts (.fieldLink RX4 51 "WagonSidings$Wagon" "behind" "LWagonSidings$Wagon;") (by decide +kernel)) (fun _ h9 => h9) (by rw [ho7]; rfl) dX4_couple_26 ?_
        refine lv_ifnonnullN hx hb dX4_couple_29 ?_
        refine lv_aload hx hb dX4_couple_32 (lv_at hl 0 rfl) ?_
        refine fw_get (v := .int (I 2 i6)) (C := RX3) (T := TX3) (N := 6) hx hb hts in3 hown hK hP (x_at5 hj hi6) rfl 4 (by decide) (hts (.fieldLink RX4 55 "WagonSidings$Wagon" "hasOneAhead" "Z") (by decide +kernel)) (fun _ h9 => h9) rfl dX4_couple_34 ?_
        refine lv_if_ne (tgt := 58) hx hb dX4_couple_37 (by decide) (fun c_37 => ?_) (fun c_37 => ?_)
        · refine lv_bipush (v := (-103)) hx hb dX4_couple_58 (by decide) ?_
          exact fw_iret hx hb hr hlocks hK hP hD hS dX4_couple_60 ⟨_, _, by simp [sp_couple, pif_True, pif_False, hf1, hf5, ho7, c_37], rfl⟩
        · refine lv_aload hx hb dX4_couple_40 (lv_at hl 0 rfl) ?_
          refine fw_get (v := .int (I 3 i6)) (C := RX3) (T := TX3) (N := 6) hx hb hts in3 hown hK hP (x_at5 hj hi6) rfl 5 (by decide) (hts (.fieldLink RX4 59 "WagonSidings$Wagon" "firstOn" "I") (by decide +kernel)) (fun _ h9 => h9) rfl dX4_couple_42 ?_
          refine lv_iconst (v := (-1)) hx hb dX4_couple_45 (by decide) ?_
          refine lv_icmp_ne (tgt := 58) hx hb dX4_couple_46 (by decide) (fun c_46 => ?_) (fun c_46 => ?_)
          · refine lv_bipush (v := (-103)) hx hb dX4_couple_58 (by decide) ?_
            exact fw_iret hx hb hr hlocks hK hP hD hS dX4_couple_60 ⟨_, _, by simp [sp_couple, pif_True, pif_False, hf1, hf5, ho7, eq_true c_37, c_46], rfl⟩
          · refine lv_aload_n hx hb dX4_couple_49 rfl (lv_at hl 1 rfl) ?_
            refine lv_aload hx hb dX4_couple_50 (lv_at hl 0 rfl) ?_
            refine fw_calli (va_runS (As := [.ref (ad 5 i2), .ref (ad 5 i6)]) (rest := []) ⟨hx, hb, hml, hown, hts⟩ (c_X4_isAtOrBehind l D kk ad n I O hj hI hi2 hi6 _) (va_cwS 2 hts gX4_couple_X4_isAtOrBehind rfl rfl rfl (by decide +kernel) ⟨Nat.le_of_ble_eq_true rfl, Nat.le_of_ble_eq_true rfl⟩) (fw_preS hK hP) rfl rfl hl.1 rfl (lv_room (Nat.le_of_ble_eq_true rfl)) dX4_couple_52 ⟨Nat.le_of_ble_eq_true rfl, Nat.le_of_ble_eq_true rfl⟩) hD hS hA (fun r w1 H locs hq hP hD hS => ?_)
            obtain ⟨rfl, rfl⟩ := hq
            by_cases hb9 : cin (O 0) (some i6) i2
            · rw [pif_t hb9]
              refine lv_if_eq (tgt := 61) hx hb dX4_couple_55 (by decide) (fun c9 => absurd c9 (by decide)) (fun _ => ?_)
              refine lv_bipush (v := (-103)) hx hb dX4_couple_58 (by decide) ?_
              exact fw_iret hx hb hr hlocks hK hP hD hS dX4_couple_60 ⟨_, _, by simp [sp_couple, pif_True, pif_False, hf1, hf5, ho7, eq_true c_37, eq_true c_46, hb9], rfl⟩
            · rw [pif_f hb9]
              refine lv_if_eq (tgt := 61) hx hb dX4_couple_55 (by decide) (fun _ => ?_) (fun c9 => absurd c9 (by decide))
              refine lv_aload_n hx hb dX4_couple_61 rfl (lv_at hl 1 rfl) ?_
              refine lv_aload hx hb dX4_couple_62 (lv_at hl 0 rfl) ?_
              refine fw_put (v := .ref (ad 5 i6)) (ty := .object "WagonSidings$Wagon") (C := RX3) (T := TX3) (N := 6) hx hb hts in3 tyX3 tyX3_ok nmX3 hown hK hP hD hS (x_at5 hj hi2) rfl 3 (by decide) (hts (.fieldLink RX4 51 "WagonSidings$Wagon" "behind" "LWagonSidings$Wagon;") (by decide +kernel)) (fun _ h9 => h9) rfl (by decide +kernel) rfl rfl (Nat.le_of_ble_eq_true rfl) dX4_couple_64 (x_put5_3 hj hi2) (fun H locs hP hD hS => ?_)
              refine lv_aload hx hb dX4_couple_67 (lv_at hl 0 rfl) ?_
              refine lv_iconst (v := 1) hx hb dX4_couple_69 (by decide) ?_
              refine fw_put (v := .int 1) (ty := .boolean) (C := RX3) (T := TX3) (N := 6) hx hb hts in3 tyX3 tyX3_ok nmX3 hown hK hP hD hS (x_at5 hj hi6) rfl 4 (by decide) (hts (.fieldLink RX4 55 "WagonSidings$Wagon" "hasOneAhead" "Z") (by decide +kernel)) (fun _ h9 => h9) rfl (by decide +kernel) rfl rfl (Nat.le_of_ble_eq_true rfl) dX4_couple_70 (x_put5_4 hj hi6) (fun H locs hP hD hS => ?_)
              refine lv_iconst (v := 1) hx hb dX4_couple_73 (by decide) ?_
              exact fw_iret hx hb hr hlocks hK hP hD hS dX4_couple_74 ⟨_, _, by simp [sp_couple, pif_True, pif_False, hf1, hf5, ho7, eq_true c_37, eq_true c_46, hb9], rfl⟩
      · have hj8 := (hI.2.1 _ _ _ ho7)
        refine fw_get (v := .ref (ad 5 j8)) (C := RX3) (T := TX3) (N := 6) hx hb hts in3 hown hK hP (x_at5 hj hi2) rfl 3 (by decide) (hts (.fieldLink RX4 51 "WagonSidings$Wagon" "behind" "LWagonSidings$Wagon;") (by decide +kernel)) (fun _ h9 => h9) (by rw [ho7]; rfl) dX4_couple_26 ?_
        refine lv_ifnonnull (tgt := 58) hx hb dX4_couple_29 (by decide) ?_
        refine lv_bipush (v := (-103)) hx hb dX4_couple_58 (by decide) ?_
        exact fw_iret hx hb hr hlocks hK hP hD hS dX4_couple_60 ⟨_, _, by simp [sp_couple, pif_True, pif_False, hf1, hf5, ho7], rfl⟩

set_option maxHeartbeats 4000000 in
set_option maxRecDepth 100000 in
theorem c_X4_stand (l : Launch) (D : va_G) (kk : Nat → ClassId) (ad : Nat → Nat → Nat) (n : Nat) (I : sI) (O : sO) (hj : sj (xV n) ad) (hY : yI n I O) (t a : Int32) : fw_Mi l yX4_stand wsX4_stand { frames := 1, cells := 0, slots := 0, locals := 21 } 0 0 D vwCl (xT kk) (xw kk ad n I O) [.ref (ad 0 0), .int t, .int a] (fun r w1 => ∃ I1 O1, sp_stand n I O t a = (r, I1, O1) ∧ w1 = xw kk ad n I1 O1) := by
  refine fw_ofi (cc := cX4_stand) (maxL := 6) (ret := (some .int)) (by decide) rfl (Nat.le_of_ble_eq_true rfl) ?_
  intro p e s m args below meth c A ls hx hb hml hr hlocks hnm hts hown hK hP hD hA hS hl
  have hown : s.vm.findClass RX4 = some m.cls := hown
  have hl : lv_has ls 6 [(0, .ref (ad 0 0)), (1, .int t), (2, .int a)] := hl
  have in2 : ∀ w ∈ u_ws RX2 TX2 2, w ∈ wsX4_stand := by decide +kernel
  have in3 : ∀ w ∈ u_ws RX3 TX3 6, w ∈ wsX4_stand := by decide +kernel
  have hI := hY.1
  refine lv_aload_n hx hb dX4_stand_0 rfl (lv_at hl 0 rfl) ?_
  refine lv_iload_n hx hb dX4_stand_1 rfl (lv_at hl 1 rfl) ?_
  refine fw_callq (va_runV (As := [.int t]) (rest := []) ⟨hx, hb, hml, hown, hts⟩ (c_X4_findTrack l D kk ad n I O hj hI t _) (cwV 1 hts gX4_stand_X4_findTrack rfl rfl rfl (by decide +kernel) ⟨Nat.le_of_ble_eq_true rfl, Nat.le_of_ble_eq_true rfl⟩) (fw_preV hK hP (ci := 4) rfl (x_at0 hj)) rfl rfl hl.1 rfl (lv_room (Nat.le_of_ble_eq_true rfl)) dX4_stand_2 ⟨Nat.le_of_ble_eq_true rfl, Nat.le_of_ble_eq_true rfl⟩) hD hS hA (fun r w1 H locs hq hP hD hS => ?_)
  obtain ⟨rfl, rfl⟩ := hq
  rcases oc (fnd 6 t) with hf1 | ⟨i2, hf1⟩
  · refine W.eq (g2 := F0 m 5 ls [.null]) (by rw [hf1]; rfl) ?_
    refine lv_astore_nN (lv' := [(3, .null), (0, .ref (ad 0 0)), (1, .int t), (2, .int a)]) hx hb dX4_stand_5 rfl hl (by decide) rfl (fun ls hl => ?_)
    refine lv_aload_n hx hb dX4_stand_6 rfl (lv_at hl 1 rfl) ?_
    refine lv_iload_n hx hb dX4_stand_7 rfl (lv_at hl 3 rfl) ?_
    refine fw_callq (va_runV (As := [.int a]) (rest := []) ⟨hx, hb, hml, hown, hts⟩ (c_X4_findWagon l D kk ad n I O hj hI a _) (cwV 1 hts gX4_stand_X4_findWagon rfl rfl rfl (by decide +kernel) ⟨Nat.le_of_ble_eq_true rfl, Nat.le_of_ble_eq_true rfl⟩) (fw_preV hK hP (ci := 4) rfl (x_at0 hj)) rfl rfl hl.1 rfl (lv_room (Nat.le_of_ble_eq_true rfl)) dX4_stand_8 ⟨Nat.le_of_ble_eq_true rfl, Nat.le_of_ble_eq_true rfl⟩) hD hS hA (fun r w1 H locs hq hP hD hS => ?_)
    obtain ⟨rfl, rfl⟩ := hq
    rcases oc (fnd n a) with hf3 | ⟨i4, hf3⟩
    · refine W.eq (g2 := F0 m 11 ls [.null]) (by rw [hf3]; rfl) ?_
      refine lv_astoreN (lv' := [(4, .null), (3, .null), (0, .ref (ad 0 0)), (1, .int t), (2, .int a)]) hx hb dX4_stand_11 hl (by decide) rfl (fun ls hl => ?_)
      refine lv_aload_nN hx hb dX4_stand_13 rfl (lv_at hl 1 rfl) ?_
      refine lv_ifnullN (tgt := 27) hx hb dX4_stand_14 (by decide) ?_
      refine lv_bipush (v := (-101)) hx hb dX4_stand_27 (by decide) ?_
      exact fw_iret hx hb hr hlocks hK hP hD hS dX4_stand_29 ⟨_, _, by simp [sp_stand, pif_True, pif_False, num, clr, hf1, hf3], rfl⟩
    · have hi4 := (fnd_lt hf3).1
      refine W.eq (g2 := F0 m 11 ls [.ref (ad 5 i4)]) (by rw [hf3]; rfl) ?_
      refine lv_astore (lv' := [(4, .ref (ad 5 i4)), (3, .null), (0, .ref (ad 0 0)), (1, .int t), (2, .int a)]) hx hb dX4_stand_11 hl (by decide) rfl (fun ls hl => ?_)
      refine lv_aload_nN hx hb dX4_stand_13 rfl (lv_at hl 1 rfl) ?_
      refine lv_ifnullN (tgt := 27) hx hb dX4_stand_14 (by decide) ?_
      refine lv_bipush (v := (-101)) hx hb dX4_stand_27 (by decide) ?_
      exact fw_iret hx hb hr hlocks hK hP hD hS dX4_stand_29 ⟨_, _, by simp [sp_stand, pif_True, pif_False, num, clr, hf1, hf3], rfl⟩
  · have hi2 := (fnd_lt hf1).1
    refine W.eq (g2 := F0 m 5 ls [.ref (ad 6 i2)]) (by rw [hf1]; rfl) ?_
    refine lv_astore_n (lv' := [(3, .ref (ad 6 i2)), (0, .ref (ad 0 0)), (1, .int t), (2, .int a)]) hx hb dX4_stand_5 rfl hl (by decide) rfl (fun ls hl => ?_)
    refine lv_aload_n hx hb dX4_stand_6 rfl (lv_at hl 1 rfl) ?_
    refine lv_iload_n hx hb dX4_stand_7 rfl (lv_at hl 3 rfl) ?_
    refine fw_callq (va_runV (As := [.int a]) (rest := []) ⟨hx, hb, hml, hown, hts⟩ (c_X4_findWagon l D kk ad n I O hj hI a _) (cwV 1 hts gX4_stand_X4_findWagon rfl rfl rfl (by decide +kernel) ⟨Nat.le_of_ble_eq_true rfl, Nat.le_of_ble_eq_true rfl⟩) (fw_preV hK hP (ci := 4) rfl (x_at0 hj)) rfl rfl hl.1 rfl (lv_room (Nat.le_of_ble_eq_true rfl)) dX4_stand_8 ⟨Nat.le_of_ble_eq_true rfl, Nat.le_of_ble_eq_true rfl⟩) hD hS hA (fun r w1 H locs hq hP hD hS => ?_)
    obtain ⟨rfl, rfl⟩ := hq
    rcases oc (fnd n a) with hf5 | ⟨i6, hf5⟩
    · refine W.eq (g2 := F0 m 11 ls [.null]) (by rw [hf5]; rfl) ?_
      refine lv_astoreN (lv' := [(4, .null), (3, .ref (ad 6 i2)), (0, .ref (ad 0 0)), (1, .int t), (2, .int a)]) hx hb dX4_stand_11 hl (by decide) rfl (fun ls hl => ?_)
      refine lv_aload_n hx hb dX4_stand_13 rfl (lv_at hl 1 rfl) ?_
      refine lv_ifnull hx hb dX4_stand_14 ?_
      refine lv_aloadN hx hb dX4_stand_17 (lv_at hl 0 rfl) ?_
      refine lv_ifnonnullN hx hb dX4_stand_19 ?_
      refine lv_iload_n hx hb dX4_stand_22 rfl (lv_at hl 4 rfl) ?_
      refine lv_iconst (v := (-1)) hx hb dX4_stand_23 (by decide) ?_
      refine lv_icmp_eq (tgt := 30) hx hb dX4_stand_24 (by decide) (fun c_24 => ?_) (fun c_24 => ?_)
      · refine lv_aloadN hx hb dX4_stand_30 (lv_at hl 0 rfl) ?_
        refine lv_ifnullN (tgt := 55) hx hb dX4_stand_32 (by decide) ?_
        refine lv_aload_n hx hb dX4_stand_55 rfl (lv_at hl 1 rfl) ?_
        rcases oc (O 1 i2) with ho7 | ⟨j8, ho7⟩
        · refine fw_get (v := .null) (C := RX2) (T := TX2) (N := 2) hx hb hts in2 hown hK hP (x_at6 hj hi2) rfl 0 (by decide) (hts (.fieldLink RX4 70 "WagonSidings$Track" "first" "LWagonSidings$Wagon;") (by decide +kernel)) (fun _ h9 => h9) (by rw [ho7]; rfl) dX4_stand_56 ?_
          refine lv_astoreN (lv' := [(5, .null), (4, .null), (3, .ref (ad 6 i2)), (0, .ref (ad 0 0)), (1, .int t), (2, .int a)]) hx hb dX4_stand_59 hl (by decide) rfl (fun ls hl => ?_)
          refine lv_aloadN hx hb dX4_stand_61 (lv_at hl 0 rfl) ?_
          refine lv_ifnullN (tgt := 72) hx hb dX4_stand_63 (by decide) ?_
          refine lv_aloadN hx hb dX4_stand_72 (lv_at hl 1 rfl) ?_
          refine lv_ifnullN (tgt := 83) hx hb dX4_stand_74 (by decide) ?_
          refine lv_aload_n hx hb dX4_stand_83 rfl (lv_at hl 2 rfl) ?_
          refine lv_aloadN hx hb dX4_stand_84 (lv_at hl 1 rfl) ?_
          refine fw_put (v := .null) (ty := .object "WagonSidings$Wagon") (C := RX2) (T := TX2) (N := 2) hx hb hts in2 tyX2 tyX2_ok nmX2 hown hK hP hD hS (x_at6 hj hi2) rfl 0 (by decide) (hts (.fieldLink RX4 70 "WagonSidings$Track" "first" "LWagonSidings$Wagon;") (by decide +kernel)) (fun _ h9 => h9) rfl (by decide +kernel) rfl rfl (Nat.le_of_ble_eq_true rfl) dX4_stand_86 (x_put6_0N hj hi2) (fun H locs hP hD hS => ?_)
          refine lv_aloadN hx hb dX4_stand_89 (lv_at hl 0 rfl) ?_
          refine fw_calli (va_runS (As := [.null]) (rest := []) ⟨hx, hb, hml, hown, hts⟩ (c_X4_numberOfN l D kk _ _) (va_cwS 1 hts gX4_stand_X4_numberOf rfl rfl rfl (by decide +kernel) ⟨Nat.le_of_ble_eq_true rfl, Nat.le_of_ble_eq_true rfl⟩) (fw_preS hK hP) rfl rfl hl.1 rfl (lv_room (Nat.le_of_ble_eq_true rfl)) dX4_stand_91 ⟨Nat.le_of_ble_eq_true rfl, Nat.le_of_ble_eq_true rfl⟩) hD hS hA (fun r w1 H locs hq hP hD hS => ?_)
          obtain ⟨rfl, rfl⟩ := hq
          exact fw_iret hx hb hr hlocks hK hP hD hS dX4_stand_94 ⟨_, _, by simp [sp_stand, pif_True, pif_False, num, clr, hf1, hf5, eq_true c_24, ho7], rfl⟩
        · have hj8 := (hI.2.1 _ _ _ ho7)
          refine fw_get (v := .ref (ad 5 j8)) (C := RX2) (T := TX2) (N := 2) hx hb hts in2 hown hK hP (x_at6 hj hi2) rfl 0 (by decide) (hts (.fieldLink RX4 70 "WagonSidings$Track" "first" "LWagonSidings$Wagon;") (by decide +kernel)) (fun _ h9 => h9) (by rw [ho7]; rfl) dX4_stand_56 ?_
          refine lv_astore (lv' := [(5, .ref (ad 5 j8)), (4, .null), (3, .ref (ad 6 i2)), (0, .ref (ad 0 0)), (1, .int t), (2, .int a)]) hx hb dX4_stand_59 hl (by decide) rfl (fun ls hl => ?_)
          refine lv_aload hx hb dX4_stand_61 (lv_at hl 0 rfl) ?_
          refine lv_ifnull hx hb dX4_stand_63 ?_
          refine lv_aload hx hb dX4_stand_66 (lv_at hl 0 rfl) ?_
          refine lv_iconst (v := (-1)) hx hb dX4_stand_68 (by decide) ?_
          refine fw_put (v := .int (-1)) (ty := .int) (C := RX3) (T := TX3) (N := 6) hx hb hts in3 tyX3 tyX3_ok nmX3 hown hK hP hD hS (x_at5 hj hj8) rfl 5 (by decide) (hts (.fieldLink RX4 59 "WagonSidings$Wagon" "firstOn" "I") (by decide +kernel)) (fun _ h9 => h9) rfl (by decide +kernel) rfl rfl (Nat.le_of_ble_eq_true rfl) dX4_stand_69 (x_put5_5 hj hj8) (fun H locs hP hD hS => ?_)
          refine lv_aloadN hx hb dX4_stand_72 (lv_at hl 1 rfl) ?_
          refine lv_ifnullN (tgt := 83) hx hb dX4_stand_74 (by decide) ?_
          refine lv_aload_n hx hb dX4_stand_83 rfl (lv_at hl 2 rfl) ?_
          refine lv_aloadN hx hb dX4_stand_84 (lv_at hl 1 rfl) ?_
          refine fw_put (v := .null) (ty := .object "WagonSidings$Wagon") (C := RX2) (T := TX2) (N := 2) hx hb hts in2 tyX2 tyX2_ok nmX2 hown hK hP hD hS (x_at6 hj hi2) rfl 0 (by decide) (hts (.fieldLink RX4 70 "WagonSidings$Track" "first" "LWagonSidings$Wagon;") (by decide +kernel)) (fun _ h9 => h9) rfl (by decide +kernel) rfl rfl (Nat.le_of_ble_eq_true rfl) dX4_stand_86 (x_put6_0N hj hi2) (fun H locs hP hD hS => ?_)
          refine lv_aload hx hb dX4_stand_89 (lv_at hl 0 rfl) ?_
          refine fw_calli (va_runS (As := [.ref (ad 5 j8)]) (rest := []) ⟨hx, hb, hml, hown, hts⟩ (c_X4_numberOf l D kk ad n (upI I 3 j8 (-1)) (upO O 1 i2 none) hj hj8 _) (va_cwS 1 hts gX4_stand_X4_numberOf rfl rfl rfl (by decide +kernel) ⟨Nat.le_of_ble_eq_true rfl, Nat.le_of_ble_eq_true rfl⟩) (fw_preS hK hP) rfl rfl hl.1 rfl (lv_room (Nat.le_of_ble_eq_true rfl)) dX4_stand_91 ⟨Nat.le_of_ble_eq_true rfl, Nat.le_of_ble_eq_true rfl⟩) hD hS hA (fun r w1 H locs hq hP hD hS => ?_)
          obtain ⟨rfl, rfl⟩ := hq
          exact fw_iret hx hb hr hlocks hK hP hD hS dX4_stand_94 ⟨_, _, by simp [sp_stand, pif_True, pif_False, num, clr, hf1, hf5, eq_true c_24, ho7], rfl⟩
      · refine lv_bipush (v := (-101)) hx hb dX4_stand_27 (by decide) ?_
        exact fw_iret hx hb hr hlocks hK hP hD hS dX4_stand_29 ⟨_, _, by simp [sp_stand, pif_True, pif_False, num, clr, hf1, hf5, c_24], rfl⟩
    · have hi6 := (fnd_lt hf5).1
      refine W.eq (g2 := F0 m 11 ls [.ref (ad 5 i6)]) (by rw [hf5]; rfl) ?_
      refine lv_astore (lv' := [(4, .ref (ad 5 i6)), (3, .ref (ad 6 i2)), (0, .ref (ad 0 0)), (1, .int t), (2, .int a)]) hx hb dX4_stand_11 hl (by decide) rfl (fun ls hl => ?_)
      refine lv_aload_n hx hb dX4_stand_13 rfl (lv_at hl 1 rfl) ?_
      refine lv_ifnull hx hb dX4_stand_14 ?_
      refine lv_aload hx hb dX4_stand_17 (lv_at hl 0 rfl) ?_
      refine lv_ifnonnull (tgt := 30) hx hb dX4_stand_19 (by decide) ?_
      refine lv_aload hx hb dX4_stand_30 (lv_at hl 0 rfl) ?_
      refine lv_ifnull hx hb dX4_stand_32 ?_
      refine lv_aload hx hb dX4_stand_35 (lv_at hl 0 rfl) ?_
      refine fw_get (v := .int (I 2 i6)) (C := RX3) (T := TX3) (N := 6) hx hb hts in3 hown hK hP (x_at5 hj hi6) rfl 4 (by decide) (hts (.fieldLink RX4 55 "WagonSidings$Wagon" "hasOneAhead" "Z") (by decide +kernel)) (fun _ h9 => h9) rfl dX4_stand_37 ?_
      refine lv_if_ne (tgt := 52) hx hb dX4_stand_40 (by decide) (fun c_40 => ?_) (fun c_40 => ?_)
      · refine lv_bipush (v := (-103)) hx hb dX4_stand_52 (by decide) ?_
        exact fw_iret hx hb hr hlocks hK hP hD hS dX4_stand_54 ⟨_, _, by simp [sp_stand, pif_True, pif_False, num, clr, hf1, hf5, c_40], rfl⟩
      · refine lv_aload hx hb dX4_stand_43 (lv_at hl 0 rfl) ?_
        refine fw_get (v := .int (I 3 i6)) (C := RX3) (T := TX3) (N := 6) hx hb hts in3 hown hK hP (x_at5 hj hi6) rfl 5 (by decide) (hts (.fieldLink RX4 59 "WagonSidings$Wagon" "firstOn" "I") (by decide +kernel)) (fun _ h9 => h9) rfl dX4_stand_45 ?_
        refine lv_iconst (v := (-1)) hx hb dX4_stand_48 (by decide) ?_
        refine lv_icmp_eq (tgt := 55) hx hb dX4_stand_49 (by decide) (fun c_49 => ?_) (fun c_49 => ?_)
        · refine lv_aload_n hx hb dX4_stand_55 rfl (lv_at hl 1 rfl) ?_
          rcases oc (O 1 i2) with ho9 | ⟨j10, ho9⟩
          · refine fw_get (v := .null) (C := RX2) (T := TX2) (N := 2) hx hb hts in2 hown hK hP (x_at6 hj hi2) rfl 0 (by decide) (hts (.fieldLink RX4 70 "WagonSidings$Track" "first" "LWagonSidings$Wagon;") (by decide +kernel)) (fun _ h9 => h9) (by rw [ho9]; rfl) dX4_stand_56 ?_
            refine lv_astoreN (lv' := [(5, .null), (4, .ref (ad 5 i6)), (3, .ref (ad 6 i2)), (0, .ref (ad 0 0)), (1, .int t), (2, .int a)]) hx hb dX4_stand_59 hl (by decide) rfl (fun ls hl => ?_)
            refine lv_aloadN hx hb dX4_stand_61 (lv_at hl 0 rfl) ?_
            refine lv_ifnullN (tgt := 72) hx hb dX4_stand_63 (by decide) ?_
            refine lv_aload hx hb dX4_stand_72 (lv_at hl 1 rfl) ?_
            refine lv_ifnull hx hb dX4_stand_74 ?_
            refine lv_aload hx hb dX4_stand_77 (lv_at hl 1 rfl) ?_
            refine lv_iload_n hx hb dX4_stand_79 rfl (lv_at hl 4 rfl) ?_
            refine fw_put (v := .int t) (ty := .int) (C := RX3) (T := TX3) (N := 6) hx hb hts in3 tyX3 tyX3_ok nmX3 hown hK hP hD hS (x_at5 hj hi6) rfl 5 (by decide) (hts (.fieldLink RX4 59 "WagonSidings$Wagon" "firstOn" "I") (by decide +kernel)) (fun _ h9 => h9) rfl (by decide +kernel) rfl rfl (Nat.le_of_ble_eq_true rfl) dX4_stand_80 (x_put5_5 hj hi6) (fun H locs hP hD hS => ?_)
            refine lv_aload_n hx hb dX4_stand_83 rfl (lv_at hl 2 rfl) ?_
            refine lv_aload hx hb dX4_stand_84 (lv_at hl 1 rfl) ?_
            refine fw_put (v := .ref (ad 5 i6)) (ty := .object "WagonSidings$Wagon") (C := RX2) (T := TX2) (N := 2) hx hb hts in2 tyX2 tyX2_ok nmX2 hown hK hP hD hS (x_at6 hj hi2) rfl 0 (by decide) (hts (.fieldLink RX4 70 "WagonSidings$Track" "first" "LWagonSidings$Wagon;") (by decide +kernel)) (fun _ h9 => h9) rfl (by decide +kernel) rfl rfl (Nat.le_of_ble_eq_true rfl) dX4_stand_86 (x_put6_0 hj hi2) (fun H locs hP hD hS => ?_)
            refine lv_aloadN hx hb dX4_stand_89 (lv_at hl 0 rfl) ?_
            refine fw_calli (va_runS (As := [.null]) (rest := []) ⟨hx, hb, hml, hown, hts⟩ (c_X4_numberOfN l D kk _ _) (va_cwS 1 hts gX4_stand_X4_numberOf rfl rfl rfl (by decide +kernel) ⟨Nat.le_of_ble_eq_true rfl, Nat.le_of_ble_eq_true rfl⟩) (fw_preS hK hP) rfl rfl hl.1 rfl (lv_room (Nat.le_of_ble_eq_true rfl)) dX4_stand_91 ⟨Nat.le_of_ble_eq_true rfl, Nat.le_of_ble_eq_true rfl⟩) hD hS hA (fun r w1 H locs hq hP hD hS => ?_)
            obtain ⟨rfl, rfl⟩ := hq
            exact fw_iret hx hb hr hlocks hK hP hD hS dX4_stand_94 ⟨_, _, by simp [sp_stand, pif_True, pif_False, num, clr, hf1, hf5, eq_true c_40, eq_true c_49, ho9], rfl⟩
          · have hj10 := (hI.2.1 _ _ _ ho9)
            refine fw_get (v := .ref (ad 5 j10)) (C := RX2) (T := TX2) (N := 2) hx hb hts in2 hown hK hP (x_at6 hj hi2) rfl 0 (by decide) (hts (.fieldLink RX4 70 "WagonSidings$Track" "first" "LWagonSidings$Wagon;") (by decide +kernel)) (fun _ h9 => h9) (by rw [ho9]; rfl) dX4_stand_56 ?_
            refine lv_astore (lv' := [(5, .ref (ad 5 j10)), (4, .ref (ad 5 i6)), (3, .ref (ad 6 i2)), (0, .ref (ad 0 0)), (1, .int t), (2, .int a)]) hx hb dX4_stand_59 hl (by decide) rfl (fun ls hl => ?_)
            refine lv_aload hx hb dX4_stand_61 (lv_at hl 0 rfl) ?_
            refine lv_ifnull hx hb dX4_stand_63 ?_
            refine lv_aload hx hb dX4_stand_66 (lv_at hl 0 rfl) ?_
            refine lv_iconst (v := (-1)) hx hb dX4_stand_68 (by decide) ?_
            refine fw_put (v := .int (-1)) (ty := .int) (C := RX3) (T := TX3) (N := 6) hx hb hts in3 tyX3 tyX3_ok nmX3 hown hK hP hD hS (x_at5 hj hj10) rfl 5 (by decide) (hts (.fieldLink RX4 59 "WagonSidings$Wagon" "firstOn" "I") (by decide +kernel)) (fun _ h9 => h9) rfl (by decide +kernel) rfl rfl (Nat.le_of_ble_eq_true rfl) dX4_stand_69 (x_put5_5 hj hj10) (fun H locs hP hD hS => ?_)
            refine lv_aload hx hb dX4_stand_72 (lv_at hl 1 rfl) ?_
            refine lv_ifnull hx hb dX4_stand_74 ?_
            refine lv_aload hx hb dX4_stand_77 (lv_at hl 1 rfl) ?_
            refine lv_iload_n hx hb dX4_stand_79 rfl (lv_at hl 4 rfl) ?_
            refine fw_put (v := .int t) (ty := .int) (C := RX3) (T := TX3) (N := 6) hx hb hts in3 tyX3 tyX3_ok nmX3 hown hK hP hD hS (x_at5 hj hi6) rfl 5 (by decide) (hts (.fieldLink RX4 59 "WagonSidings$Wagon" "firstOn" "I") (by decide +kernel)) (fun _ h9 => h9) rfl (by decide +kernel) rfl rfl (Nat.le_of_ble_eq_true rfl) dX4_stand_80 (x_put5_5 hj hi6) (fun H locs hP hD hS => ?_)
            refine lv_aload_n hx hb dX4_stand_83 rfl (lv_at hl 2 rfl) ?_
            refine lv_aload hx hb dX4_stand_84 (lv_at hl 1 rfl) ?_
            refine fw_put (v := .ref (ad 5 i6)) (ty := .object "WagonSidings$Wagon") (C := RX2) (T := TX2) (N := 2) hx hb hts in2 tyX2 tyX2_ok nmX2 hown hK hP hD hS (x_at6 hj hi2) rfl 0 (by decide) (hts (.fieldLink RX4 70 "WagonSidings$Track" "first" "LWagonSidings$Wagon;") (by decide +kernel)) (fun _ h9 => h9) rfl (by decide +kernel) rfl rfl (Nat.le_of_ble_eq_true rfl) dX4_stand_86 (x_put6_0 hj hi2) (fun H locs hP hD hS => ?_)
            refine lv_aload hx hb dX4_stand_89 (lv_at hl 0 rfl) ?_
            refine fw_calli (va_runS (As := [.ref (ad 5 j10)]) (rest := []) ⟨hx, hb, hml, hown, hts⟩ (c_X4_numberOf l D kk ad n (upI (upI I 3 j10 (-1)) 3 i6 t) (upO O 1 i2 (some i6)) hj hj10 _) (va_cwS 1 hts gX4_stand_X4_numberOf rfl rfl rfl (by decide +kernel) ⟨Nat.le_of_ble_eq_true rfl, Nat.le_of_ble_eq_true rfl⟩) (fw_preS hK hP) rfl rfl hl.1 rfl (lv_room (Nat.le_of_ble_eq_true rfl)) dX4_stand_91 ⟨Nat.le_of_ble_eq_true rfl, Nat.le_of_ble_eq_true rfl⟩) hD hS hA (fun r w1 H locs hq hP hD hS => ?_)
            obtain ⟨rfl, rfl⟩ := hq
            exact fw_iret hx hb hr hlocks hK hP hD hS dX4_stand_94 ⟨_, _, by simp [sp_stand, pif_True, pif_False, num, clr, hf1, hf5, eq_true c_40, eq_true c_49, ho9], rfl⟩
        · refine lv_bipush (v := (-103)) hx hb dX4_stand_52 (by decide) ?_
          exact fw_iret hx hb hr hlocks hK hP hD hS dX4_stand_54 ⟨_, _, by simp [sp_stand, pif_True, pif_False, num, clr, hf1, hf5, eq_true c_40, c_49], rfl⟩

set_option maxHeartbeats 4000000 in
set_option maxRecDepth 100000 in
theorem c_X4_signal (l : Launch) (D : va_G) (kk : Nat → ClassId) (ad : Nat → Nat → Nat) (n : Nat) (I : sI) (O : sO) (hj : sj (xV n) ad) (hY : yI n I O) (t v : Int32) : fw_Mi l yX4_signal wsX4_signal { frames := 1, cells := 0, slots := 0, locals := 21 } 0 0 D vwCl (xT kk) (xw kk ad n I O) [.ref (ad 0 0), .int t, .int v] (fun r w1 => ∃ I1 O1, sp_signal I O t v = (r, I1, O1) ∧ w1 = xw kk ad n I1 O1) := by
  refine fw_ofi (cc := cX4_signal) (maxL := 5) (ret := (some .int)) (by decide) rfl (Nat.le_of_ble_eq_true rfl) ?_
  intro p e s m args below meth c A ls hx hb hml hr hlocks hnm hts hown hK hP hD hA hS hl
  have hown : s.vm.findClass RX4 = some m.cls := hown
  have hl : lv_has ls 5 [(0, .ref (ad 0 0)), (1, .int t), (2, .int v)] := hl
  have in2 : ∀ w ∈ u_ws RX2 TX2 2, w ∈ wsX4_signal := by decide +kernel
  have hI := hY.1
  refine lv_aload_n hx hb dX4_signal_0 rfl (lv_at hl 0 rfl) ?_
  refine lv_iload_n hx hb dX4_signal_1 rfl (lv_at hl 1 rfl) ?_
  refine fw_callq (va_runV (As := [.int t]) (rest := []) ⟨hx, hb, hml, hown, hts⟩ (c_X4_findTrack l D kk ad n I O hj hI t _) (cwV 1 hts gX4_signal_X4_findTrack rfl rfl rfl (by decide +kernel) ⟨Nat.le_of_ble_eq_true rfl, Nat.le_of_ble_eq_true rfl⟩) (fw_preV hK hP (ci := 4) rfl (x_at0 hj)) rfl rfl hl.1 rfl (lv_room (Nat.le_of_ble_eq_true rfl)) dX4_signal_2 ⟨Nat.le_of_ble_eq_true rfl, Nat.le_of_ble_eq_true rfl⟩) hD hS hA (fun r w1 H locs hq hP hD hS => ?_)
  obtain ⟨rfl, rfl⟩ := hq
  rcases oc (fnd 6 t) with hf1 | ⟨i2, hf1⟩
  · refine W.eq (g2 := F0 m 5 ls [.null]) (by rw [hf1]; rfl) ?_
    refine lv_astore_nN (lv' := [(3, .null), (0, .ref (ad 0 0)), (1, .int t), (2, .int v)]) hx hb dX4_signal_5 rfl hl (by decide) rfl (fun ls hl => ?_)
    refine lv_aload_nN hx hb dX4_signal_6 rfl (lv_at hl 0 rfl) ?_
    refine lv_ifnonnullN hx hb dX4_signal_7 ?_
    refine lv_bipush (v := (-101)) hx hb dX4_signal_10 (by decide) ?_
    exact fw_iret hx hb hr hlocks hK hP hD hS dX4_signal_12 ⟨_, _, by simp [sp_signal, pif_True, pif_False, hf1], rfl⟩
  · have hi2 := (fnd_lt hf1).1
    refine W.eq (g2 := F0 m 5 ls [.ref (ad 6 i2)]) (by rw [hf1]; rfl) ?_
    refine lv_astore_n (lv' := [(3, .ref (ad 6 i2)), (0, .ref (ad 0 0)), (1, .int t), (2, .int v)]) hx hb dX4_signal_5 rfl hl (by decide) rfl (fun ls hl => ?_)
    refine lv_aload_n hx hb dX4_signal_6 rfl (lv_at hl 0 rfl) ?_
    refine lv_ifnonnull (tgt := 13) hx hb dX4_signal_7 (by decide) ?_
    refine lv_iload_n hx hb dX4_signal_13 rfl (lv_at hl 3 rfl) ?_
    refine lv_iconst (v := (-1)) hx hb dX4_signal_14 (by decide) ?_
    refine lv_icmp_ge (tgt := 21) hx hb dX4_signal_15 (by decide) (fun c_15 => ?_) (fun c_15 => ?_)
    · refine lv_aload_n hx hb dX4_signal_21 rfl (lv_at hl 0 rfl) ?_
      refine fw_get (v := .int (I 4 i2)) (C := RX2) (T := TX2) (N := 2) hx hb hts in2 hown hK hP (x_at6 hj hi2) rfl 1 (by decide) (hts (.fieldLink RX4 77 "WagonSidings$Track" "hung" "I") (by decide +kernel)) (fun _ h9 => h9) rfl dX4_signal_22 ?_
      refine lv_istore (lv' := [(4, .int (I 4 i2)), (3, .ref (ad 6 i2)), (0, .ref (ad 0 0)), (1, .int t), (2, .int v)]) hx hb dX4_signal_25 hl (by decide) rfl (fun ls hl => ?_)
      refine lv_aload_n hx hb dX4_signal_27 rfl (lv_at hl 1 rfl) ?_
      refine lv_iload_n hx hb dX4_signal_28 rfl (lv_at hl 4 rfl) ?_
      refine fw_put (v := .int v) (ty := .int) (C := RX2) (T := TX2) (N := 2) hx hb hts in2 tyX2 tyX2_ok nmX2 hown hK hP hD hS (x_at6 hj hi2) rfl 1 (by decide) (hts (.fieldLink RX4 77 "WagonSidings$Track" "hung" "I") (by decide +kernel)) (fun _ h9 => h9) rfl (by decide +kernel) rfl rfl (Nat.le_of_ble_eq_true rfl) dX4_signal_29 (x_put6_1 hj hi2) (fun H locs hP hD hS => ?_)
      refine lv_iload hx hb dX4_signal_32 (lv_at hl 0 rfl) ?_
      exact fw_iret hx hb hr hlocks hK hP hD hS dX4_signal_34 ⟨_, _, by simp [sp_signal, pif_True, pif_False, hf1, c_15, Int32.not_lt.mpr c_15], rfl⟩
    · refine lv_bipush (v := (-102)) hx hb dX4_signal_18 (by decide) ?_
      exact fw_iret hx hb hr hlocks hK hP hD hS dX4_signal_20 ⟨_, _, by simp [sp_signal, pif_True, pif_False, hf1, c_15, Int32.not_le.mp c_15], rfl⟩

set_option maxHeartbeats 4000000 in
set_option maxRecDepth 100000 in
theorem c_X4_wagonAt (l : Launch) (D : va_G) (kk : Nat → ClassId) (ad : Nat → Nat → Nat) (n : Nat) (I : sI) (O : sO) (hj : sj (xV n) ad) (hY : yI n I O) (t a : Int32) : fw_Mi l yX4_wagonAt wsX4_wagonAt { frames := 3, cells := 0, slots := 0, locals := 67 } 0 0 D vwCl (xT kk) (xw kk ad n I O) [.ref (ad 0 0), .int t, .int a] (fun r w1 => ∃ I1 O1, sp_wagonAt I O t a = (r, I1, O1) ∧ w1 = xw kk ad n I1 O1) := by
  refine fw_ofi (cc := cX4_wagonAt) (maxL := 4) (ret := (some .int)) (by decide) rfl (Nat.le_of_ble_eq_true rfl) ?_
  intro p e s m args below meth c A ls hx hb hml hr hlocks hnm hts hown hK hP hD hA hS hl
  have hown : s.vm.findClass RX4 = some m.cls := hown
  have hl : lv_has ls 4 [(0, .ref (ad 0 0)), (1, .int t), (2, .int a)] := hl
  have in3 : ∀ w ∈ u_ws RX3 TX3 6, w ∈ wsX4_wagonAt := by decide +kernel
  have hI := hY.1
  refine lv_aload_n hx hb dX4_wagonAt_0 rfl (lv_at hl 0 rfl) ?_
  refine lv_iload_n hx hb dX4_wagonAt_1 rfl (lv_at hl 1 rfl) ?_
  refine lv_iload_n hx hb dX4_wagonAt_2 rfl (lv_at hl 2 rfl) ?_
  refine fw_callq (va_runV (As := [.int t, .int a]) (rest := []) ⟨hx, hb, hml, hown, hts⟩ (c_X4_reach l D kk ad n I O hj hI t a _) (cwV 2 hts gX4_wagonAt_X4_reach rfl rfl rfl (by decide +kernel) ⟨Nat.le_of_ble_eq_true rfl, Nat.le_of_ble_eq_true rfl⟩) (fw_preV hK hP (ci := 4) rfl (x_at0 hj)) rfl rfl hl.1 rfl (lv_room (Nat.le_of_ble_eq_true rfl)) dX4_wagonAt_3 ⟨Nat.le_of_ble_eq_true rfl, Nat.le_of_ble_eq_true rfl⟩) hD hS hA (fun r w1 H locs hq hP hD hS => ?_)
  obtain ⟨rfl, rfl⟩ := hq
  rcases oc (rch O t a) with hr1 | ⟨j2, hr1⟩
  · rw [rchI_none hr1] at hP hD
    refine W.eq (g2 := F0 m 6 ls [.null]) (by rw [hr1]; rfl) ?_
    refine lv_astore_nN (lv' := [(3, .null), (0, .ref (ad 0 0)), (1, .int t), (2, .int a)]) hx hb dX4_wagonAt_6 rfl hl (by decide) rfl (fun ls hl => ?_)
    refine lv_aload_nN hx hb dX4_wagonAt_7 rfl (lv_at hl 0 rfl) ?_
    refine lv_ifnonnullN hx hb dX4_wagonAt_8 ?_
    refine lv_aload_n hx hb dX4_wagonAt_11 rfl (lv_at hl 1 rfl) ?_
    refine lv_iload_n hx hb dX4_wagonAt_12 rfl (lv_at hl 2 rfl) ?_
    refine lv_iload_n hx hb dX4_wagonAt_13 rfl (lv_at hl 3 rfl) ?_
    refine fw_calli (va_runV (As := [.int t, .int a]) (rest := []) ⟨hx, hb, hml, hown, hts⟩ (c_X4_answerUnreached l D kk ad n I O hj hI t a hr1 _) (cwV 2 hts gX4_wagonAt_X4_answerUnreached rfl rfl rfl (by decide +kernel) ⟨Nat.le_of_ble_eq_true rfl, Nat.le_of_ble_eq_true rfl⟩) (fw_preV hK hP (ci := 4) rfl (x_at0 hj)) rfl rfl hl.1 rfl (lv_room (Nat.le_of_ble_eq_true rfl)) dX4_wagonAt_14 ⟨Nat.le_of_ble_eq_true rfl, Nat.le_of_ble_eq_true rfl⟩) hD hS hA (fun r w1 H locs hq hP hD hS => ?_)
    obtain ⟨J, hq, rfl⟩ := hq
    refine lv_goto (tgt := 24) hx hb dX4_wagonAt_17 (by decide) ?_
    exact fw_iret hx hb hr hlocks hK hP hD hS dX4_wagonAt_24 ⟨_, _, by rw [sp_wagonAt]; exact hq _, rfl⟩
  · rw [rchI_some hr1] at hP hD
    have hj2 := rch_lt hI hr1
    refine W.eq (g2 := F0 m 6 ls [.ref (ad 5 j2)]) (by rw [hr1]; rfl) ?_
    refine lv_astore_n (lv' := [(3, .ref (ad 5 j2)), (0, .ref (ad 0 0)), (1, .int t), (2, .int a)]) hx hb dX4_wagonAt_6 rfl hl (by decide) rfl (fun ls hl => ?_)
    refine lv_aload_n hx hb dX4_wagonAt_7 rfl (lv_at hl 0 rfl) ?_
    refine lv_ifnonnull (tgt := 20) hx hb dX4_wagonAt_8 (by decide) ?_
    refine lv_aload_n hx hb dX4_wagonAt_20 rfl (lv_at hl 0 rfl) ?_
    refine fw_get (v := .int (nI j2)) (C := RX3) (T := TX3) (N := 6) hx hb hts in3 hown hK hP (x_at5 hj hj2) rfl 0 (by decide) (hts (.fieldLink RX4 88 "WagonSidings$Wagon" "number" "I") (by decide +kernel)) (fun _ h9 => h9) rfl dX4_wagonAt_21 ?_
    exact fw_iret hx hb hr hlocks hK hP hD hS dX4_wagonAt_24 ⟨_, _, by rw [sp_wagonAt, sp_at_some hr1], rfl⟩

set_option maxHeartbeats 4000000 in
set_option maxRecDepth 100000 in
theorem c_X4_load (l : Launch) (D : va_G) (kk : Nat → ClassId) (ad : Nat → Nat → Nat) (n : Nat) (I : sI) (O : sO) (hj : sj (xV n) ad) (hY : yI n I O) (t a v : Int32) : fw_Mi l yX4_load wsX4_load { frames := 3, cells := 0, slots := 0, locals := 67 } 0 0 D vwCl (xT kk) (xw kk ad n I O) [.ref (ad 0 0), .int t, .int a, .int v] (fun r w1 => ∃ I1 O1, sp_load I O t a v = (r, I1, O1) ∧ w1 = xw kk ad n I1 O1) := by
  refine fw_ofi (cc := cX4_load) (maxL := 5) (ret := (some .int)) (by decide) rfl (Nat.le_of_ble_eq_true rfl) ?_
  intro p e s m args below meth c A ls hx hb hml hr hlocks hnm hts hown hK hP hD hA hS hl
  have hown : s.vm.findClass RX4 = some m.cls := hown
  have hl : lv_has ls 5 [(0, .ref (ad 0 0)), (1, .int t), (2, .int a), (3, .int v)] := hl
  have in3 : ∀ w ∈ u_ws RX3 TX3 6, w ∈ wsX4_load := by decide +kernel
  have hI := hY.1
  refine lv_aload_n hx hb dX4_load_0 rfl (lv_at hl 0 rfl) ?_
  refine lv_iload_n hx hb dX4_load_1 rfl (lv_at hl 1 rfl) ?_
  refine lv_iload_n hx hb dX4_load_2 rfl (lv_at hl 2 rfl) ?_
  refine fw_callq (va_runV (As := [.int t, .int a]) (rest := []) ⟨hx, hb, hml, hown, hts⟩ (c_X4_reach l D kk ad n I O hj hI t a _) (cwV 2 hts gX4_load_X4_reach rfl rfl rfl (by decide +kernel) ⟨Nat.le_of_ble_eq_true rfl, Nat.le_of_ble_eq_true rfl⟩) (fw_preV hK hP (ci := 4) rfl (x_at0 hj)) rfl rfl hl.1 rfl (lv_room (Nat.le_of_ble_eq_true rfl)) dX4_load_3 ⟨Nat.le_of_ble_eq_true rfl, Nat.le_of_ble_eq_true rfl⟩) hD hS hA (fun r w1 H locs hq hP hD hS => ?_)
  obtain ⟨rfl, rfl⟩ := hq
  rcases oc (rch O t a) with hr1 | ⟨j2, hr1⟩
  · rw [rchI_none hr1] at hP hD
    refine W.eq (g2 := F0 m 6 ls [.null]) (by rw [hr1]; rfl) ?_
    refine lv_astoreN (lv' := [(4, .null), (0, .ref (ad 0 0)), (1, .int t), (2, .int a), (3, .int v)]) hx hb dX4_load_6 hl (by decide) rfl (fun ls hl => ?_)
    refine lv_aloadN hx hb dX4_load_8 (lv_at hl 0 rfl) ?_
    refine lv_ifnonnullN hx hb dX4_load_10 ?_
    refine lv_aload_n hx hb dX4_load_13 rfl (lv_at hl 1 rfl) ?_
    refine lv_iload_n hx hb dX4_load_14 rfl (lv_at hl 2 rfl) ?_
    refine lv_iload_n hx hb dX4_load_15 rfl (lv_at hl 3 rfl) ?_
    refine fw_calli (va_runV (As := [.int t, .int a]) (rest := []) ⟨hx, hb, hml, hown, hts⟩ (c_X4_answerUnreached l D kk ad n I O hj hI t a hr1 _) (cwV 2 hts gX4_load_X4_answerUnreached rfl rfl rfl (by decide +kernel) ⟨Nat.le_of_ble_eq_true rfl, Nat.le_of_ble_eq_true rfl⟩) (fw_preV hK hP (ci := 4) rfl (x_at0 hj)) rfl rfl hl.1 rfl (lv_room (Nat.le_of_ble_eq_true rfl)) dX4_load_16 ⟨Nat.le_of_ble_eq_true rfl, Nat.le_of_ble_eq_true rfl⟩) hD hS hA (fun r w1 H locs hq hP hD hS => ?_)
    obtain ⟨J, hq, rfl⟩ := hq
    exact fw_iret hx hb hr hlocks hK hP hD hS dX4_load_19 ⟨_, _, by rw [sp_load]; exact hq _, rfl⟩
  · rw [rchI_some hr1] at hP hD
    have hj2 := rch_lt hI hr1
    refine W.eq (g2 := F0 m 6 ls [.ref (ad 5 j2)]) (by rw [hr1]; rfl) ?_
    refine lv_astore (lv' := [(4, .ref (ad 5 j2)), (0, .ref (ad 0 0)), (1, .int t), (2, .int a), (3, .int v)]) hx hb dX4_load_6 hl (by decide) rfl (fun ls hl => ?_)
    refine lv_aload hx hb dX4_load_8 (lv_at hl 0 rfl) ?_
    refine lv_ifnonnull (tgt := 20) hx hb dX4_load_10 (by decide) ?_
    refine lv_aload hx hb dX4_load_20 (lv_at hl 0 rfl) ?_
    refine lv_iload_n hx hb dX4_load_22 rfl (lv_at hl 4 rfl) ?_
    refine fw_put (v := .int v) (ty := .int) (C := RX3) (T := TX3) (N := 6) hx hb hts in3 tyX3 tyX3_ok nmX3 hown hK hP hD hS (x_at5 hj hj2) rfl 2 (by decide) (hts (.fieldLink RX4 91 "WagonSidings$Wagon" "cargo" "I") (by decide +kernel)) (fun _ h9 => h9) rfl (by decide +kernel) rfl rfl (Nat.le_of_ble_eq_true rfl) dX4_load_23 (x_put5_2 hj hj2) (fun H locs hP hD hS => ?_)
    refine lv_iconst (v := 1) hx hb dX4_load_26 (by decide) ?_
    exact fw_iret hx hb hr hlocks hK hP hD hS dX4_load_27 ⟨_, _, by rw [sp_load, sp_at_some hr1], rfl⟩

set_option maxHeartbeats 4000000 in
set_option maxRecDepth 100000 in
theorem c_X4_cut (l : Launch) (D : va_G) (kk : Nat → ClassId) (ad : Nat → Nat → Nat) (n : Nat) (I : sI) (O : sO) (hj : sj (xV n) ad) (hY : yI n I O) (t a : Int32) : fw_Mi l yX4_cut wsX4_cut { frames := 3, cells := 0, slots := 0, locals := 67 } 0 0 D vwCl (xT kk) (xw kk ad n I O) [.ref (ad 0 0), .int t, .int a] (fun r w1 => ∃ I1 O1, sp_cut I O t a = (r, I1, O1) ∧ w1 = xw kk ad n I1 O1) := by
  refine fw_ofi (cc := cX4_cut) (maxL := 4) (ret := (some .int)) (by decide) rfl (Nat.le_of_ble_eq_true rfl) ?_
  intro p e s m args below meth c A ls hx hb hml hr hlocks hnm hts hown hK hP hD hA hS hl
  have hown : s.vm.findClass RX4 = some m.cls := hown
  have hl : lv_has ls 4 [(0, .ref (ad 0 0)), (1, .int t), (2, .int a)] := hl
  have in3 : ∀ w ∈ u_ws RX3 TX3 6, w ∈ wsX4_cut := by decide +kernel
  have hI := hY.1
  refine lv_aload_n hx hb dX4_cut_0 rfl (lv_at hl 0 rfl) ?_
  refine lv_iload_n hx hb dX4_cut_1 rfl (lv_at hl 1 rfl) ?_
  refine lv_iload_n hx hb dX4_cut_2 rfl (lv_at hl 2 rfl) ?_
  refine fw_callq (va_runV (As := [.int t, .int a]) (rest := []) ⟨hx, hb, hml, hown, hts⟩ (c_X4_reach l D kk ad n I O hj hI t a _) (cwV 2 hts gX4_cut_X4_reach rfl rfl rfl (by decide +kernel) ⟨Nat.le_of_ble_eq_true rfl, Nat.le_of_ble_eq_true rfl⟩) (fw_preV hK hP (ci := 4) rfl (x_at0 hj)) rfl rfl hl.1 rfl (lv_room (Nat.le_of_ble_eq_true rfl)) dX4_cut_3 ⟨Nat.le_of_ble_eq_true rfl, Nat.le_of_ble_eq_true rfl⟩) hD hS hA (fun r w1 H locs hq hP hD hS => ?_)
  obtain ⟨rfl, rfl⟩ := hq
  rcases oc (rch O t a) with hr1 | ⟨j2, hr1⟩
  · rw [rchI_none hr1] at hP hD
    refine W.eq (g2 := F0 m 6 ls [.null]) (by rw [hr1]; rfl) ?_
    refine lv_astore_nN (lv' := [(3, .null), (0, .ref (ad 0 0)), (1, .int t), (2, .int a)]) hx hb dX4_cut_6 rfl hl (by decide) rfl (fun ls hl => ?_)
    refine lv_aload_nN hx hb dX4_cut_7 rfl (lv_at hl 0 rfl) ?_
    refine lv_ifnonnullN hx hb dX4_cut_8 ?_
    refine lv_aload_n hx hb dX4_cut_11 rfl (lv_at hl 1 rfl) ?_
    refine lv_iload_n hx hb dX4_cut_12 rfl (lv_at hl 2 rfl) ?_
    refine lv_iload_n hx hb dX4_cut_13 rfl (lv_at hl 3 rfl) ?_
    refine fw_calli (va_runV (As := [.int t, .int a]) (rest := []) ⟨hx, hb, hml, hown, hts⟩ (c_X4_answerUnreached l D kk ad n I O hj hI t a hr1 _) (cwV 2 hts gX4_cut_X4_answerUnreached rfl rfl rfl (by decide +kernel) ⟨Nat.le_of_ble_eq_true rfl, Nat.le_of_ble_eq_true rfl⟩) (fw_preV hK hP (ci := 4) rfl (x_at0 hj)) rfl rfl hl.1 rfl (lv_room (Nat.le_of_ble_eq_true rfl)) dX4_cut_14 ⟨Nat.le_of_ble_eq_true rfl, Nat.le_of_ble_eq_true rfl⟩) hD hS hA (fun r w1 H locs hq hP hD hS => ?_)
    obtain ⟨J, hq, rfl⟩ := hq
    exact fw_iret hx hb hr hlocks hK hP hD hS dX4_cut_17 ⟨_, _, by rw [sp_cut]; exact hq _, rfl⟩
  · rw [rchI_some hr1] at hP hD
    have hj2 := rch_lt hI hr1
    refine W.eq (g2 := F0 m 6 ls [.ref (ad 5 j2)]) (by rw [hr1]; rfl) ?_
    refine lv_astore_n (lv' := [(3, .ref (ad 5 j2)), (0, .ref (ad 0 0)), (1, .int t), (2, .int a)]) hx hb dX4_cut_6 rfl hl (by decide) rfl (fun ls hl => ?_)
    refine lv_aload_n hx hb dX4_cut_7 rfl (lv_at hl 0 rfl) ?_
    refine lv_ifnonnull (tgt := 18) hx hb dX4_cut_8 (by decide) ?_
    refine lv_aload_n hx hb dX4_cut_18 rfl (lv_at hl 0 rfl) ?_
    rcases oc (O 0 j2) with ho3 | ⟨j4, ho3⟩
    · refine fw_get (v := .null) (C := RX3) (T := TX3) (N := 6) hx hb hts in3 hown hK hP (x_at5 hj hj2) rfl 3 (by decide) (hts (.fieldLink RX4 51 "WagonSidings$Wagon" "behind" "LWagonSidings$Wagon;") (by decide +kernel)) (fun _ h9 => h9) (by rw [ho3]; rfl) dX4_cut_19 ?_
      refine lv_ifnullN (tgt := 38) hx hb dX4_cut_22 (by decide) ?_
      refine lv_iconst (v := 1) hx hb dX4_cut_38 (by decide) ?_
      exact fw_iret hx hb hr hlocks hK hP hD hS dX4_cut_39 ⟨_, _, by rw [sp_cut, sp_at_some hr1]; simp [pif_True, pif_False, tl_tl, hr1, ho3], rfl⟩
    · have hj4 := (hI.2.1 _ _ _ ho3)
      refine fw_get (v := .ref (ad 5 j4)) (C := RX3) (T := TX3) (N := 6) hx hb hts in3 hown hK hP (x_at5 hj hj2) rfl 3 (by decide) (hts (.fieldLink RX4 51 "WagonSidings$Wagon" "behind" "LWagonSidings$Wagon;") (by decide +kernel)) (fun _ h9 => h9) (by rw [ho3]; rfl) dX4_cut_19 ?_
      refine lv_ifnull hx hb dX4_cut_22 ?_
      refine lv_aload_n hx hb dX4_cut_25 rfl (lv_at hl 0 rfl) ?_
      refine fw_get (v := .ref (ad 5 j4)) (C := RX3) (T := TX3) (N := 6) hx hb hts in3 hown hK hP (x_at5 hj hj2) rfl 3 (by decide) (hts (.fieldLink RX4 51 "WagonSidings$Wagon" "behind" "LWagonSidings$Wagon;") (by decide +kernel)) (fun _ h9 => h9) (by rw [ho3]; rfl) dX4_cut_26 ?_
      refine lv_iconst (v := 0) hx hb dX4_cut_29 (by decide) ?_
      refine fw_put (v := .int 0) (ty := .boolean) (C := RX3) (T := TX3) (N := 6) hx hb hts in3 tyX3 tyX3_ok nmX3 hown hK hP hD hS (x_at5 hj hj4) rfl 4 (by decide) (hts (.fieldLink RX4 55 "WagonSidings$Wagon" "hasOneAhead" "Z") (by decide +kernel)) (fun _ h9 => h9) rfl (by decide +kernel) rfl rfl (Nat.le_of_ble_eq_true rfl) dX4_cut_30 (x_put5_4 hj hj4) (fun H locs hP hD hS => ?_)
      refine lv_aload_n hx hb dX4_cut_33 rfl (lv_at hl 0 rfl) ?_
      refine lv_null hx hb dX4_cut_34 ?_
      refine fw_put (v := .null) (ty := .object "WagonSidings$Wagon") (C := RX3) (T := TX3) (N := 6) hx hb hts in3 tyX3 tyX3_ok nmX3 hown hK hP hD hS (x_at5 hj hj2) rfl 3 (by decide) (hts (.fieldLink RX4 51 "WagonSidings$Wagon" "behind" "LWagonSidings$Wagon;") (by decide +kernel)) (fun _ h9 => h9) rfl (by decide +kernel) rfl rfl (Nat.le_of_ble_eq_true rfl) dX4_cut_35 (x_put5_3N hj hj2) (fun H locs hP hD hS => ?_)
      refine lv_iconst (v := 1) hx hb dX4_cut_38 (by decide) ?_
      exact fw_iret hx hb hr hlocks hK hP hD hS dX4_cut_39 ⟨_, _, by rw [sp_cut, sp_at_some hr1]; simp [pif_True, pif_False, tl_tl, hr1, ho3], rfl⟩

set_option maxHeartbeats 4000000 in
set_option maxRecDepth 100000 in
theorem c_X4_hoot (l : Launch) (D : va_G) (kk : Nat → ClassId) (ad : Nat → Nat → Nat) (n : Nat) (I : sI) (O : sO) (hj : sj (xV n) ad) (hY : yI n I O) (t a : Int32) : fw_Mi l yX4_hoot wsX4_hoot { frames := 3, cells := 0, slots := 0, locals := 67 } 0 0 D vwCl (xT kk) (xw kk ad n I O) [.ref (ad 0 0), .int t, .int a] (fun r w1 => ∃ I1 O1, sp_hoot I O t a = (r, I1, O1) ∧ w1 = xw kk ad n I1 O1) := by
  refine fw_ofi (cc := cX4_hoot) (maxL := 4) (ret := (some .int)) (by decide) rfl (Nat.le_of_ble_eq_true rfl) ?_
  intro p e s m args below meth c A ls hx hb hml hr hlocks hnm hts hown hK hP hD hA hS hl
  have hown : s.vm.findClass RX4 = some m.cls := hown
  have hl : lv_has ls 4 [(0, .ref (ad 0 0)), (1, .int t), (2, .int a)] := hl
  have hI := hY.1
  refine lv_aload_n hx hb dX4_hoot_0 rfl (lv_at hl 0 rfl) ?_
  refine lv_iload_n hx hb dX4_hoot_1 rfl (lv_at hl 1 rfl) ?_
  refine lv_iload_n hx hb dX4_hoot_2 rfl (lv_at hl 2 rfl) ?_
  refine fw_callq (va_runV (As := [.int t, .int a]) (rest := []) ⟨hx, hb, hml, hown, hts⟩ (c_X4_reach l D kk ad n I O hj hI t a _) (cwV 2 hts gX4_hoot_X4_reach rfl rfl rfl (by decide +kernel) ⟨Nat.le_of_ble_eq_true rfl, Nat.le_of_ble_eq_true rfl⟩) (fw_preV hK hP (ci := 4) rfl (x_at0 hj)) rfl rfl hl.1 rfl (lv_room (Nat.le_of_ble_eq_true rfl)) dX4_hoot_3 ⟨Nat.le_of_ble_eq_true rfl, Nat.le_of_ble_eq_true rfl⟩) hD hS hA (fun r w1 H locs hq hP hD hS => ?_)
  obtain ⟨rfl, rfl⟩ := hq
  rcases oc (rch O t a) with hr1 | ⟨j2, hr1⟩
  · rw [rchI_none hr1] at hP hD
    refine W.eq (g2 := F0 m 6 ls [.null]) (by rw [hr1]; rfl) ?_
    refine lv_astore_nN (lv' := [(3, .null), (0, .ref (ad 0 0)), (1, .int t), (2, .int a)]) hx hb dX4_hoot_6 rfl hl (by decide) rfl (fun ls hl => ?_)
    refine lv_aload_nN hx hb dX4_hoot_7 rfl (lv_at hl 0 rfl) ?_
    refine lv_ifnonnullN hx hb dX4_hoot_8 ?_
    refine lv_aload_n hx hb dX4_hoot_11 rfl (lv_at hl 1 rfl) ?_
    refine lv_iload_n hx hb dX4_hoot_12 rfl (lv_at hl 2 rfl) ?_
    refine lv_iload_n hx hb dX4_hoot_13 rfl (lv_at hl 3 rfl) ?_
    refine fw_calli (va_runV (As := [.int t, .int a]) (rest := []) ⟨hx, hb, hml, hown, hts⟩ (c_X4_answerUnreached l D kk ad n I O hj hI t a hr1 _) (cwV 2 hts gX4_hoot_X4_answerUnreached rfl rfl rfl (by decide +kernel) ⟨Nat.le_of_ble_eq_true rfl, Nat.le_of_ble_eq_true rfl⟩) (fw_preV hK hP (ci := 4) rfl (x_at0 hj)) rfl rfl hl.1 rfl (lv_room (Nat.le_of_ble_eq_true rfl)) dX4_hoot_14 ⟨Nat.le_of_ble_eq_true rfl, Nat.le_of_ble_eq_true rfl⟩) hD hS hA (fun r w1 H locs hq hP hD hS => ?_)
    obtain ⟨J, hq, rfl⟩ := hq
    refine lv_goto (tgt := 24) hx hb dX4_hoot_17 (by decide) ?_
    exact fw_iret hx hb hr hlocks hK hP hD hS dX4_hoot_24 ⟨_, _, by rw [sp_hoot]; exact hq _, rfl⟩
  · rw [rchI_some hr1] at hP hD
    have hj2 := rch_lt hI hr1
    refine W.eq (g2 := F0 m 6 ls [.ref (ad 5 j2)]) (by rw [hr1]; rfl) ?_
    refine lv_astore_n (lv' := [(3, .ref (ad 5 j2)), (0, .ref (ad 0 0)), (1, .int t), (2, .int a)]) hx hb dX4_hoot_6 rfl hl (by decide) rfl (fun ls hl => ?_)
    refine lv_aload_n hx hb dX4_hoot_7 rfl (lv_at hl 0 rfl) ?_
    refine lv_ifnonnull (tgt := 20) hx hb dX4_hoot_8 (by decide) ?_
    refine lv_aload_n hx hb dX4_hoot_20 rfl (lv_at hl 0 rfl) ?_
    refine fw_calli (va_runS (As := [.ref (ad 5 j2)]) (rest := []) ⟨hx, hb, hml, hown, hts⟩ (c_X4_hootOf l D kk ad n (tl I 0 a) O hj hI hj2 _) (va_cwS 1 hts gX4_hoot_X4_hootOf rfl rfl rfl (by decide +kernel) ⟨Nat.le_of_ble_eq_true rfl, Nat.le_of_ble_eq_true rfl⟩) (fw_preS hK hP) rfl rfl hl.1 rfl (lv_room (Nat.le_of_ble_eq_true rfl)) dX4_hoot_21 ⟨Nat.le_of_ble_eq_true rfl, Nat.le_of_ble_eq_true rfl⟩) hD hS hA (fun r w1 H locs hq hP hD hS => ?_)
    obtain ⟨rfl, rfl⟩ := hq
    exact fw_iret hx hb hr hlocks hK hP hD hS dX4_hoot_24 ⟨_, _, by rw [sp_hoot, sp_at_some hr1]; simp [pif_True, pif_False, tl, upI, hr1], rfl⟩

set_option maxHeartbeats 4000000 in
set_option maxRecDepth 100000 in
theorem c_X4_pull (l : Launch) (D : va_G) (kk : Nat → ClassId) (ad : Nat → Nat → Nat) (n : Nat) (I : sI) (O : sO) (hj : sj (xV n) ad) (hY : yI n I O) (t a : Int32) : fw_Mi l yX4_pull wsX4_pull { frames := 3, cells := 0, slots := 0, locals := 67 } 0 0 D vwCl (xT kk) (xw kk ad n I O) [.ref (ad 0 0), .int t, .int a] (fun r w1 => ∃ I1 O1, sp_pull I O t a = (r, I1, O1) ∧ w1 = xw kk ad n I1 O1) := by
  refine fw_ofi (cc := cX4_pull) (maxL := 4) (ret := (some .int)) (by decide) rfl (Nat.le_of_ble_eq_true rfl) ?_
  intro p e s m args below meth c A ls hx hb hml hr hlocks hnm hts hown hK hP hD hA hS hl
  have hown : s.vm.findClass RX4 = some m.cls := hown
  have hl : lv_has ls 4 [(0, .ref (ad 0 0)), (1, .int t), (2, .int a)] := hl
  have in3 : ∀ w ∈ u_ws RX3 TX3 6, w ∈ wsX4_pull := by decide +kernel
  have hI := hY.1
  refine lv_aload_n hx hb dX4_pull_0 rfl (lv_at hl 0 rfl) ?_
  refine lv_iload_n hx hb dX4_pull_1 rfl (lv_at hl 1 rfl) ?_
  refine lv_iload_n hx hb dX4_pull_2 rfl (lv_at hl 2 rfl) ?_
  refine fw_callq (va_runV (As := [.int t, .int a]) (rest := []) ⟨hx, hb, hml, hown, hts⟩ (c_X4_reach l D kk ad n I O hj hI t a _) (cwV 2 hts gX4_pull_X4_reach rfl rfl rfl (by decide +kernel) ⟨Nat.le_of_ble_eq_true rfl, Nat.le_of_ble_eq_true rfl⟩) (fw_preV hK hP (ci := 4) rfl (x_at0 hj)) rfl rfl hl.1 rfl (lv_room (Nat.le_of_ble_eq_true rfl)) dX4_pull_3 ⟨Nat.le_of_ble_eq_true rfl, Nat.le_of_ble_eq_true rfl⟩) hD hS hA (fun r w1 H locs hq hP hD hS => ?_)
  obtain ⟨rfl, rfl⟩ := hq
  rcases oc (rch O t a) with hr1 | ⟨j2, hr1⟩
  · rw [rchI_none hr1] at hP hD
    refine W.eq (g2 := F0 m 6 ls [.null]) (by rw [hr1]; rfl) ?_
    refine lv_astore_nN (lv' := [(3, .null), (0, .ref (ad 0 0)), (1, .int t), (2, .int a)]) hx hb dX4_pull_6 rfl hl (by decide) rfl (fun ls hl => ?_)
    refine lv_aload_nN hx hb dX4_pull_7 rfl (lv_at hl 0 rfl) ?_
    refine lv_ifnonnullN hx hb dX4_pull_8 ?_
    refine lv_aload_n hx hb dX4_pull_11 rfl (lv_at hl 1 rfl) ?_
    refine lv_iload_n hx hb dX4_pull_12 rfl (lv_at hl 2 rfl) ?_
    refine lv_iload_n hx hb dX4_pull_13 rfl (lv_at hl 3 rfl) ?_
    refine fw_calli (va_runV (As := [.int t, .int a]) (rest := []) ⟨hx, hb, hml, hown, hts⟩ (c_X4_answerUnreached l D kk ad n I O hj hI t a hr1 _) (cwV 2 hts gX4_pull_X4_answerUnreached rfl rfl rfl (by decide +kernel) ⟨Nat.le_of_ble_eq_true rfl, Nat.le_of_ble_eq_true rfl⟩) (fw_preV hK hP (ci := 4) rfl (x_at0 hj)) rfl rfl hl.1 rfl (lv_room (Nat.le_of_ble_eq_true rfl)) dX4_pull_14 ⟨Nat.le_of_ble_eq_true rfl, Nat.le_of_ble_eq_true rfl⟩) hD hS hA (fun r w1 H locs hq hP hD hS => ?_)
    obtain ⟨J, hq, rfl⟩ := hq
    exact fw_iret hx hb hr hlocks hK hP hD hS dX4_pull_17 ⟨_, _, by rw [sp_pull]; exact hq _, rfl⟩
  · rw [rchI_some hr1] at hP hD
    have hj2 := rch_lt hI hr1
    refine W.eq (g2 := F0 m 6 ls [.ref (ad 5 j2)]) (by rw [hr1]; rfl) ?_
    refine lv_astore_n (lv' := [(3, .ref (ad 5 j2)), (0, .ref (ad 0 0)), (1, .int t), (2, .int a)]) hx hb dX4_pull_6 rfl hl (by decide) rfl (fun ls hl => ?_)
    refine lv_aload_n hx hb dX4_pull_7 rfl (lv_at hl 0 rfl) ?_
    refine lv_ifnonnull (tgt := 18) hx hb dX4_pull_8 (by decide) ?_
    refine lv_aload_n hx hb dX4_pull_18 rfl (lv_at hl 0 rfl) ?_
    refine fw_get (v := .int ((tl I 0 a) 0 j2)) (C := RX3) (T := TX3) (N := 6) hx hb hts in3 hown hK hP (x_at5 hj hj2) rfl 1 (by decide) (hts (.fieldLink RX4 97 "WagonSidings$Wagon" "kind" "I") (by decide +kernel)) (fun _ h9 => h9) rfl dX4_pull_19 ?_
    refine lv_iconst (v := 3) hx hb dX4_pull_22 (by decide) ?_
    refine fw_calli (va_runS (As := [.int ((tl I 0 a) 0 j2), .int 3]) (rest := []) ⟨hx, hb, hml, hown, hts⟩ (c_X4_isOf l D kk _ ((tl I 0 a) 0 j2) 3 _) (va_cwS 2 hts gX4_pull_X4_isOf rfl rfl rfl (by decide +kernel) ⟨Nat.le_of_ble_eq_true rfl, Nat.le_of_ble_eq_true rfl⟩) (fw_preS hK hP) rfl rfl hl.1 rfl (lv_room (Nat.le_of_ble_eq_true rfl)) dX4_pull_23 ⟨Nat.le_of_ble_eq_true rfl, Nat.le_of_ble_eq_true rfl⟩) hD hS hA (fun r w1 H locs hq hP hD hS => ?_)
    obtain ⟨rfl, rfl⟩ := hq
    by_cases hb3 : isOf ((tl I 0 a) 0 j2) 3
    · rw [pif_t hb3]
      refine lv_if_eq (tgt := 36) hx hb dX4_pull_26 (by decide) (fun c9 => absurd c9 (by decide)) (fun _ => ?_)
      refine lv_aload_n hx hb dX4_pull_29 rfl (lv_at hl 0 rfl) ?_
      refine fw_calli (va_runS (As := [.ref (ad 5 j2)]) (rest := []) ⟨hx, hb, hml, hown, hts⟩ (c_X4_pullOf l D kk ad n (tl I 0 a) O hj hI hj2 _) (va_cwS 1 hts gX4_pull_X4_pullOf rfl rfl rfl (by decide +kernel) ⟨Nat.le_of_ble_eq_true rfl, Nat.le_of_ble_eq_true rfl⟩) (fw_preS hK hP) rfl rfl hl.1 rfl (lv_room (Nat.le_of_ble_eq_true rfl)) dX4_pull_30 ⟨Nat.le_of_ble_eq_true rfl, Nat.le_of_ble_eq_true rfl⟩) hD hS hA (fun r w1 H locs hq hP hD hS => ?_)
      obtain ⟨rfl, rfl⟩ := hq
      refine lv_goto (tgt := 42) hx hb dX4_pull_33 (by decide) ?_
      exact fw_iret hx hb hr hlocks hK hP hD hS dX4_pull_42 ⟨_, _, by have h3 := hb3; rw [tl_0] at h3; rw [sp_pull, sp_at_some hr1]; simp [pif_True, pif_False, tl_tl, pull_tl, h3], rfl⟩
    · rw [pif_f hb3]
      refine lv_if_eq (tgt := 36) hx hb dX4_pull_26 (by decide) (fun _ => ?_) (fun c9 => absurd c9 (by decide))
      refine lv_aload_n hx hb dX4_pull_36 rfl (lv_at hl 1 rfl) ?_
      refine lv_iconst (v := 4) hx hb dX4_pull_37 (by decide) ?_
      refine lv_iload_n hx hb dX4_pull_38 rfl (lv_at hl 3 rfl) ?_
      refine fw_calli (va_runV (As := [.int 4, .int a]) (rest := []) ⟨hx, hb, hml, hown, hts⟩ (c_X4_fail l D kk ad n (tl I 0 a) O hj hI 4 a _) (cwV 2 hts gX4_pull_X4_fail rfl rfl rfl (by decide +kernel) ⟨Nat.le_of_ble_eq_true rfl, Nat.le_of_ble_eq_true rfl⟩) (fw_preV hK hP (ci := 4) rfl (x_at0 hj)) rfl rfl hl.1 rfl (lv_room (Nat.le_of_ble_eq_true rfl)) dX4_pull_39 ⟨Nat.le_of_ble_eq_true rfl, Nat.le_of_ble_eq_true rfl⟩) hD hS hA (fun r w1 H locs hq hP hD hS => ?_)
      obtain ⟨rfl, rfl⟩ := hq
      exact fw_iret hx hb hr hlocks hK hP hD hS dX4_pull_42 ⟨_, _, by have h3 := hb3; rw [tl_0] at h3; rw [sp_pull, sp_at_some hr1]; simp [pif_True, pif_False, tl_tl, pull_tl, h3], rfl⟩

set_option maxHeartbeats 4000000 in
set_option maxRecDepth 100000 in
theorem c_X4_loadAs (l : Launch) (D : va_G) (kk : Nat → ClassId) (ad : Nat → Nat → Nat) (n : Nat) (I : sI) (O : sO) (hj : sj (xV n) ad) (hY : yI n I O) (t a k : Int32) : fw_Mi l yX4_loadAs wsX4_loadAs { frames := 3, cells := 0, slots := 0, locals := 67 } 0 0 D vwCl (xT kk) (xw kk ad n I O) [.ref (ad 0 0), .int t, .int a, .int k] (fun r w1 => ∃ I1 O1, sp_loadAs I O t a k = (r, I1, O1) ∧ w1 = xw kk ad n I1 O1) := by
  refine fw_ofi (cc := cX4_loadAs) (maxL := 5) (ret := (some .int)) (by decide) rfl (Nat.le_of_ble_eq_true rfl) ?_
  intro p e s m args below meth c A ls hx hb hml hr hlocks hnm hts hown hK hP hD hA hS hl
  have hown : s.vm.findClass RX4 = some m.cls := hown
  have hl : lv_has ls 5 [(0, .ref (ad 0 0)), (1, .int t), (2, .int a), (3, .int k)] := hl
  have in3 : ∀ w ∈ u_ws RX3 TX3 6, w ∈ wsX4_loadAs := by decide +kernel
  have hI := hY.1
  refine lv_iload_n hx hb dX4_loadAs_0 rfl (lv_at hl 3 rfl) ?_
  refine fw_calli (va_runS (As := [.int k]) (rest := []) ⟨hx, hb, hml, hown, hts⟩ (c_X4_isKind l D kk _ k _) (va_cwS 1 hts gX4_loadAs_X4_isKind rfl rfl rfl (by decide +kernel) ⟨Nat.le_of_ble_eq_true rfl, Nat.le_of_ble_eq_true rfl⟩) (fw_preS hK hP) rfl rfl hl.1 rfl (lv_room (Nat.le_of_ble_eq_true rfl)) dX4_loadAs_1 ⟨Nat.le_of_ble_eq_true rfl, Nat.le_of_ble_eq_true rfl⟩) hD hS hA (fun r w1 H locs hq hP hD hS => ?_)
  obtain ⟨rfl, rfl⟩ := hq
  by_cases hb1 : isKd k
  · rw [pif_t hb1]
    refine lv_if_ne (tgt := 23) hx hb dX4_loadAs_4 (by decide) (fun _ => ?_) (fun c9 => absurd c9 (by decide))
    refine lv_aload_n hx hb dX4_loadAs_23 rfl (lv_at hl 0 rfl) ?_
    refine lv_iload_n hx hb dX4_loadAs_24 rfl (lv_at hl 1 rfl) ?_
    refine lv_iload_n hx hb dX4_loadAs_25 rfl (lv_at hl 2 rfl) ?_
    refine fw_callq (va_runV (As := [.int t, .int a]) (rest := []) ⟨hx, hb, hml, hown, hts⟩ (c_X4_reach l D kk ad n I O hj hI t a _) (cwV 2 hts gX4_loadAs_X4_reach rfl rfl rfl (by decide +kernel) ⟨Nat.le_of_ble_eq_true rfl, Nat.le_of_ble_eq_true rfl⟩) (fw_preV hK hP (ci := 4) rfl (x_at0 hj)) rfl rfl hl.1 rfl (lv_room (Nat.le_of_ble_eq_true rfl)) dX4_loadAs_26 ⟨Nat.le_of_ble_eq_true rfl, Nat.le_of_ble_eq_true rfl⟩) hD hS hA (fun r w1 H locs hq hP hD hS => ?_)
    obtain ⟨rfl, rfl⟩ := hq
    rcases oc (rch O t a) with hr2 | ⟨j3, hr2⟩
    · rw [rchI_none hr2] at hP hD
      refine W.eq (g2 := F0 m 29 ls [.null]) (by rw [hr2]; rfl) ?_
      refine lv_astoreN (lv' := [(4, .null), (0, .ref (ad 0 0)), (1, .int t), (2, .int a), (3, .int k)]) hx hb dX4_loadAs_29 hl (by decide) rfl (fun ls hl => ?_)
      refine lv_aloadN hx hb dX4_loadAs_31 (lv_at hl 0 rfl) ?_
      refine lv_ifnonnullN hx hb dX4_loadAs_33 ?_
      refine lv_aload_n hx hb dX4_loadAs_36 rfl (lv_at hl 1 rfl) ?_
      refine lv_iload_n hx hb dX4_loadAs_37 rfl (lv_at hl 2 rfl) ?_
      refine lv_iload_n hx hb dX4_loadAs_38 rfl (lv_at hl 3 rfl) ?_
      refine fw_calli (va_runV (As := [.int t, .int a]) (rest := []) ⟨hx, hb, hml, hown, hts⟩ (c_X4_answerUnreached l D kk ad n I O hj hI t a hr2 _) (cwV 2 hts gX4_loadAs_X4_answerUnreached rfl rfl rfl (by decide +kernel) ⟨Nat.le_of_ble_eq_true rfl, Nat.le_of_ble_eq_true rfl⟩) (fw_preV hK hP (ci := 4) rfl (x_at0 hj)) rfl rfl hl.1 rfl (lv_room (Nat.le_of_ble_eq_true rfl)) dX4_loadAs_39 ⟨Nat.le_of_ble_eq_true rfl, Nat.le_of_ble_eq_true rfl⟩) hD hS hA (fun r w1 H locs hq hP hD hS => ?_)
      obtain ⟨J, hq, rfl⟩ := hq
      exact fw_iret hx hb hr hlocks hK hP hD hS dX4_loadAs_42 ⟨_, _, by rw [sp_loadAs, pif_t hb1]; exact hq _, rfl⟩
    · rw [rchI_some hr2] at hP hD
      have hj3 := rch_lt hI hr2
      refine W.eq (g2 := F0 m 29 ls [.ref (ad 5 j3)]) (by rw [hr2]; rfl) ?_
      refine lv_astore (lv' := [(4, .ref (ad 5 j3)), (0, .ref (ad 0 0)), (1, .int t), (2, .int a), (3, .int k)]) hx hb dX4_loadAs_29 hl (by decide) rfl (fun ls hl => ?_)
      refine lv_aload hx hb dX4_loadAs_31 (lv_at hl 0 rfl) ?_
      refine lv_ifnonnull (tgt := 43) hx hb dX4_loadAs_33 (by decide) ?_
      refine lv_aload hx hb dX4_loadAs_43 (lv_at hl 0 rfl) ?_
      refine fw_get (v := .int ((tl I 0 a) 0 j3)) (C := RX3) (T := TX3) (N := 6) hx hb hts in3 hown hK hP (x_at5 hj hj3) rfl 1 (by decide) (hts (.fieldLink RX4 97 "WagonSidings$Wagon" "kind" "I") (by decide +kernel)) (fun _ h9 => h9) rfl dX4_loadAs_45 ?_
      refine lv_iload_n hx hb dX4_loadAs_48 rfl (lv_at hl 4 rfl) ?_
      refine fw_calli (va_runS (As := [.int ((tl I 0 a) 0 j3), .int k]) (rest := []) ⟨hx, hb, hml, hown, hts⟩ (c_X4_isOf l D kk _ ((tl I 0 a) 0 j3) k _) (va_cwS 2 hts gX4_loadAs_X4_isOf rfl rfl rfl (by decide +kernel) ⟨Nat.le_of_ble_eq_true rfl, Nat.le_of_ble_eq_true rfl⟩) (fw_preS hK hP) rfl rfl hl.1 rfl (lv_room (Nat.le_of_ble_eq_true rfl)) dX4_loadAs_49 ⟨Nat.le_of_ble_eq_true rfl, Nat.le_of_ble_eq_true rfl⟩) hD hS hA (fun r w1 H locs hq hP hD hS => ?_)
      obtain ⟨rfl, rfl⟩ := hq
      by_cases hb4 : isOf ((tl I 0 a) 0 j3) k
      · rw [pif_t hb4]
        refine lv_if_eq (tgt := 63) hx hb dX4_loadAs_52 (by decide) (fun c9 => absurd c9 (by decide)) (fun _ => ?_)
        refine lv_aload hx hb dX4_loadAs_55 (lv_at hl 0 rfl) ?_
        refine fw_get (v := .int ((tl I 0 a) 1 j3)) (C := RX3) (T := TX3) (N := 6) hx hb hts in3 hown hK hP (x_at5 hj hj3) rfl 2 (by decide) (hts (.fieldLink RX4 91 "WagonSidings$Wagon" "cargo" "I") (by decide +kernel)) (fun _ h9 => h9) rfl dX4_loadAs_57 ?_
        refine lv_goto (tgt := 69) hx hb dX4_loadAs_60 (by decide) ?_
        exact fw_iret hx hb hr hlocks hK hP hD hS dX4_loadAs_69 ⟨_, _, by have h3 := hb4; rw [tl_0] at h3; rw [sp_loadAs, pif_t hb1, sp_at_some hr2]; simp [pif_True, pif_False, tl_tl, tl_1, h3], rfl⟩
      · rw [pif_f hb4]
        refine lv_if_eq (tgt := 63) hx hb dX4_loadAs_52 (by decide) (fun _ => ?_) (fun c9 => absurd c9 (by decide))
        refine lv_aload_n hx hb dX4_loadAs_63 rfl (lv_at hl 1 rfl) ?_
        refine lv_iconst (v := 4) hx hb dX4_loadAs_64 (by decide) ?_
        refine lv_iload_n hx hb dX4_loadAs_65 rfl (lv_at hl 3 rfl) ?_
        refine fw_calli (va_runV (As := [.int 4, .int a]) (rest := []) ⟨hx, hb, hml, hown, hts⟩ (c_X4_fail l D kk ad n (tl I 0 a) O hj hI 4 a _) (cwV 2 hts gX4_loadAs_X4_fail rfl rfl rfl (by decide +kernel) ⟨Nat.le_of_ble_eq_true rfl, Nat.le_of_ble_eq_true rfl⟩) (fw_preV hK hP (ci := 4) rfl (x_at0 hj)) rfl rfl hl.1 rfl (lv_room (Nat.le_of_ble_eq_true rfl)) dX4_loadAs_66 ⟨Nat.le_of_ble_eq_true rfl, Nat.le_of_ble_eq_true rfl⟩) hD hS hA (fun r w1 H locs hq hP hD hS => ?_)
        obtain ⟨rfl, rfl⟩ := hq
        exact fw_iret hx hb hr hlocks hK hP hD hS dX4_loadAs_69 ⟨_, _, by have h3 := hb4; rw [tl_0] at h3; rw [sp_loadAs, pif_t hb1, sp_at_some hr2]; simp [pif_True, pif_False, tl_tl, tl_1, h3], rfl⟩
  · rw [pif_f hb1]
    refine lv_if_ne (tgt := 23) hx hb dX4_loadAs_4 (by decide) (fun c9 => absurd c9 (by decide)) (fun _ => ?_)
    refine lv_aload_n hx hb dX4_loadAs_7 rfl (lv_at hl 0 rfl) ?_
    refine lv_iload_n hx hb dX4_loadAs_8 rfl (lv_at hl 1 rfl) ?_
    refine fw_callq (va_runV (As := [.int t]) (rest := []) ⟨hx, hb, hml, hown, hts⟩ (c_X4_findTrack l D kk ad n I O hj hI t _) (cwV 1 hts gX4_loadAs_X4_findTrack rfl rfl rfl (by decide +kernel) ⟨Nat.le_of_ble_eq_true rfl, Nat.le_of_ble_eq_true rfl⟩) (fw_preV hK hP (ci := 4) rfl (x_at0 hj)) rfl rfl hl.1 rfl (lv_room (Nat.le_of_ble_eq_true rfl)) dX4_loadAs_9 ⟨Nat.le_of_ble_eq_true rfl, Nat.le_of_ble_eq_true rfl⟩) hD hS hA (fun r w1 H locs hq hP hD hS => ?_)
    obtain ⟨rfl, rfl⟩ := hq
    rcases oc (fnd 6 t) with hf5 | ⟨i6, hf5⟩
    · refine W.eq (g2 := F0 m 12 ls [.null]) (by rw [hf5]; rfl) ?_
      refine lv_ifnonnullN hx hb dX4_loadAs_12 ?_
      refine lv_bipush (v := (-101)) hx hb dX4_loadAs_15 (by decide) ?_
      refine lv_goto (tgt := 22) hx hb dX4_loadAs_17 (by decide) ?_
      exact fw_iret hx hb hr hlocks hK hP hD hS dX4_loadAs_22 ⟨_, _, by simp [sp_loadAs, pif_True, pif_False, hb1, hf5], rfl⟩
    · have hi6 := (fnd_lt hf5).1
      refine W.eq (g2 := F0 m 12 ls [.ref (ad 6 i6)]) (by rw [hf5]; rfl) ?_
      refine lv_ifnonnull (tgt := 20) hx hb dX4_loadAs_12 (by decide) ?_
      refine lv_bipush (v := (-102)) hx hb dX4_loadAs_20 (by decide) ?_
      exact fw_iret hx hb hr hlocks hK hP hD hS dX4_loadAs_22 ⟨_, _, by simp [sp_loadAs, pif_True, pif_False, hb1, hf5], rfl⟩

set_option maxHeartbeats 4000000 in
set_option maxRecDepth 100000 in
theorem c_X4_rake (l : Launch) (D : va_G) (kk : Nat → ClassId) (ad : Nat → Nat → Nat) (n : Nat) (I : sI) (O : sO) (hj : sj (xV n) ad) (hY : yI n I O) (r0 k c0 : Int32) : fw_Mi l yX4_rake wsX4_rake { frames := 2, cells := 0, slots := 0, locals := 44 } 0 0 D vwCl (xT kk) (xw kk ad n I O) [.ref (ad 0 0), .int r0, .int k, .int c0] (fun r w1 => ∃ I1 O1, sp_rake I O r0 k c0 = (r, I1, O1) ∧ w1 = xw kk ad n I1 O1) := by
  refine fw_ofi (cc := cX4_rake) (maxL := 5) (ret := (some .int)) (by decide) rfl (Nat.le_of_ble_eq_true rfl) ?_
  intro p e s m args below meth c A ls hx hb hml hr hlocks hnm hts hown hK hP hD hA hS hl
  have hown : s.vm.findClass RX4 = some m.cls := hown
  have hl : lv_has ls 5 [(0, .ref (ad 0 0)), (1, .int r0), (2, .int k), (3, .int c0)] := hl
  have hI := hY.1
  refine lv_aload_n hx hb dX4_rake_0 rfl (lv_at hl 0 rfl) ?_
  refine lv_iload_n hx hb dX4_rake_1 rfl (lv_at hl 1 rfl) ?_
  refine fw_callq (va_runV (As := [.int r0]) (rest := []) ⟨hx, hb, hml, hown, hts⟩ (c_X4_findRake l D kk ad n I O hj hI r0 _) (cwV 1 hts gX4_rake_X4_findRake rfl rfl rfl (by decide +kernel) ⟨Nat.le_of_ble_eq_true rfl, Nat.le_of_ble_eq_true rfl⟩) (fw_preV hK hP (ci := 4) rfl (x_at0 hj)) rfl rfl hl.1 rfl (lv_room (Nat.le_of_ble_eq_true rfl)) dX4_rake_2 ⟨Nat.le_of_ble_eq_true rfl, Nat.le_of_ble_eq_true rfl⟩) hD hS hA (fun r w1 H locs hq hP hD hS => ?_)
  obtain ⟨rfl, rfl⟩ := hq
  rcases oc (fnd 4 r0) with hf1 | ⟨i2, hf1⟩
  · refine W.eq (g2 := F0 m 5 ls [.null]) (by rw [hf1]; rfl) ?_
    refine lv_astoreN (lv' := [(4, .null), (0, .ref (ad 0 0)), (1, .int r0), (2, .int k), (3, .int c0)]) hx hb dX4_rake_5 hl (by decide) rfl (fun ls hl => ?_)
    refine lv_aloadN hx hb dX4_rake_7 (lv_at hl 0 rfl) ?_
    refine lv_ifnonnullN hx hb dX4_rake_9 ?_
    refine lv_bipush (v := (-101)) hx hb dX4_rake_12 (by decide) ?_
    exact fw_iret hx hb hr hlocks hK hP hD hS dX4_rake_14 ⟨_, _, by simp [sp_rake, pif_True, pif_False, hf1], rfl⟩
  · have hi2 := (fnd_lt hf1).1
    refine W.eq (g2 := F0 m 5 ls [.ref (ad 7 i2)]) (by rw [hf1]; rfl) ?_
    refine lv_astore (lv' := [(4, .ref (ad 7 i2)), (0, .ref (ad 0 0)), (1, .int r0), (2, .int k), (3, .int c0)]) hx hb dX4_rake_5 hl (by decide) rfl (fun ls hl => ?_)
    refine lv_aload hx hb dX4_rake_7 (lv_at hl 0 rfl) ?_
    refine lv_ifnonnull (tgt := 15) hx hb dX4_rake_9 (by decide) ?_
    refine lv_iload_n hx hb dX4_rake_15 rfl (lv_at hl 3 rfl) ?_
    refine fw_calli (va_runS (As := [.int k]) (rest := []) ⟨hx, hb, hml, hown, hts⟩ (c_X4_isKind l D kk _ k _) (va_cwS 1 hts gX4_rake_X4_isKind rfl rfl rfl (by decide +kernel) ⟨Nat.le_of_ble_eq_true rfl, Nat.le_of_ble_eq_true rfl⟩) (fw_preS hK hP) rfl rfl hl.1 rfl (lv_room (Nat.le_of_ble_eq_true rfl)) dX4_rake_16 ⟨Nat.le_of_ble_eq_true rfl, Nat.le_of_ble_eq_true rfl⟩) hD hS hA (fun r w1 H locs hq hP hD hS => ?_)
    obtain ⟨rfl, rfl⟩ := hq
    by_cases hb3 : isKd k
    · rw [pif_t hb3]
      refine lv_if_eq (tgt := 28) hx hb dX4_rake_19 (by decide) (fun c9 => absurd c9 (by decide)) (fun _ => ?_)
      refine lv_iload_n hx hb dX4_rake_22 rfl (lv_at hl 4 rfl) ?_
      refine lv_bipush (v := 12) hx hb dX4_rake_23 (by decide) ?_
      refine lv_icmp_le (tgt := 31) hx hb dX4_rake_25 (by decide) (fun c_25 => ?_) (fun c_25 => ?_)
      · refine lv_iload_n hx hb dX4_rake_31 rfl (lv_at hl 4 rfl) ?_
        refine lv_if_ge (tgt := 42) hx hb dX4_rake_32 (by decide) (fun c_32 => ?_) (fun c_32 => ?_)
        · refine lv_aload hx hb dX4_rake_42 (lv_at hl 0 rfl) ?_
          refine lv_iload_n hx hb dX4_rake_44 rfl (lv_at hl 3 rfl) ?_
          refine lv_iload_n hx hb dX4_rake_45 rfl (lv_at hl 4 rfl) ?_
          refine fw_callv (va_runV (As := [.int k, .int c0]) (rest := []) ⟨hx, hb, hml, hown, hts⟩ (c_X0_renew l D kk ad n I O hj hI hi2 k c0 _) (cwV 2 hts gX4_rake_X0_renew rfl rfl rfl (by decide +kernel) ⟨Nat.le_of_ble_eq_true rfl, Nat.le_of_ble_eq_true rfl⟩) (fw_preV hK hP (ci := 0) rfl (x_at7 hj hi2)) rfl rfl hl.1 rfl (lv_room (Nat.le_of_ble_eq_true rfl)) dX4_rake_46 ⟨Nat.le_of_ble_eq_true rfl, Nat.le_of_ble_eq_true rfl⟩) hD hS hA (fun w1 H locs hq hP hD hS => ?_)
          subst hq
          have hI9 := xI_clr (f := 2 + i2) hI (by omega)
          refine lv_aload_n hx hb dX4_rake_49 rfl (lv_at hl 1 rfl) ?_
          refine lv_iconst (v := 0) hx hb dX4_rake_50 (by decide) ?_
          refine lv_iconst (v := 1) hx hb dX4_rake_51 (by decide) ?_
          refine fw_calli (va_runV (As := [.int 0, .int 1]) (rest := []) ⟨hx, hb, hml, hown, hts⟩ (c_X4_succeed l D kk ad n (upI (upI (upI I 5 i2 1) 6 i2 k) 7 i2 c0) (clrO O (2 + i2)) hj hI9 0 1 _) (cwV 2 hts gX4_rake_X4_succeed rfl rfl rfl (by decide +kernel) ⟨Nat.le_of_ble_eq_true rfl, Nat.le_of_ble_eq_true rfl⟩) (fw_preV hK hP (ci := 4) rfl (x_at0 hj)) rfl rfl hl.1 rfl (lv_room (Nat.le_of_ble_eq_true rfl)) dX4_rake_52 ⟨Nat.le_of_ble_eq_true rfl, Nat.le_of_ble_eq_true rfl⟩) hD hS hA (fun r w1 H locs hq hP hD hS => ?_)
          obtain ⟨rfl, rfl⟩ := hq
          exact fw_iret hx hb hr hlocks hK hP hD hS dX4_rake_55 ⟨_, _, by simp [sp_rake, pif_True, pif_False, hf1, hb3, c_25, Int32.not_lt.mpr c_25, c_32, Int32.not_lt.mpr c_32], rfl⟩
        · refine lv_aload_n hx hb dX4_rake_35 rfl (lv_at hl 1 rfl) ?_
          refine lv_iconst (v := 2) hx hb dX4_rake_36 (by decide) ?_
          refine lv_iconst (v := 0) hx hb dX4_rake_37 (by decide) ?_
          refine fw_calli (va_runV (As := [.int 2, .int 0]) (rest := []) ⟨hx, hb, hml, hown, hts⟩ (c_X4_fail l D kk ad n I O hj hI 2 0 _) (cwV 2 hts gX4_rake_X4_fail rfl rfl rfl (by decide +kernel) ⟨Nat.le_of_ble_eq_true rfl, Nat.le_of_ble_eq_true rfl⟩) (fw_preV hK hP (ci := 4) rfl (x_at0 hj)) rfl rfl hl.1 rfl (lv_room (Nat.le_of_ble_eq_true rfl)) dX4_rake_38 ⟨Nat.le_of_ble_eq_true rfl, Nat.le_of_ble_eq_true rfl⟩) hD hS hA (fun r w1 H locs hq hP hD hS => ?_)
          obtain ⟨rfl, rfl⟩ := hq
          exact fw_iret hx hb hr hlocks hK hP hD hS dX4_rake_41 ⟨_, _, by simp [sp_rake, pif_True, pif_False, hf1, hb3, c_25, Int32.not_lt.mpr c_25, c_32, Int32.not_le.mp c_32], rfl⟩
      · refine lv_bipush (v := (-102)) hx hb dX4_rake_28 (by decide) ?_
        exact fw_iret hx hb hr hlocks hK hP hD hS dX4_rake_30 ⟨_, _, by simp [sp_rake, pif_True, pif_False, hf1, hb3, c_25, Int32.not_le.mp c_25], rfl⟩
    · rw [pif_f hb3]
      refine lv_if_eq (tgt := 28) hx hb dX4_rake_19 (by decide) (fun _ => ?_) (fun c9 => absurd c9 (by decide))
      refine lv_bipush (v := (-102)) hx hb dX4_rake_28 (by decide) ?_
      exact fw_iret hx hb hr hlocks hK hP hD hS dX4_rake_30 ⟨_, _, by simp [sp_rake, pif_True, pif_False, hf1, hb3], rfl⟩

set_option maxHeartbeats 4000000 in
set_option maxRecDepth 100000 in
theorem c_X4_drop (l : Launch) (D : va_G) (kk : Nat → ClassId) (ad : Nat → Nat → Nat) (n : Nat) (I : sI) (O : sO) (hj : sj (xV n) ad) (hY : yI n I O) (r0 : Int32) : fw_Mi l yX4_drop wsX4_drop { frames := 1, cells := 0, slots := 0, locals := 21 } 0 0 D vwCl (xT kk) (xw kk ad n I O) [.ref (ad 0 0), .int r0] (fun r w1 => ∃ I1 O1, sp_drop I O r0 = (r, I1, O1) ∧ w1 = xw kk ad n I1 O1) := by
  refine fw_ofi (cc := cX4_drop) (maxL := 3) (ret := (some .int)) (by decide) rfl (Nat.le_of_ble_eq_true rfl) ?_
  intro p e s m args below meth c A ls hx hb hml hr hlocks hnm hts hown hK hP hD hA hS hl
  have hown : s.vm.findClass RX4 = some m.cls := hown
  have hl : lv_has ls 3 [(0, .ref (ad 0 0)), (1, .int r0)] := hl
  have in0 : ∀ w ∈ u_ws RX0 TX0 4, w ∈ wsX4_drop := by decide +kernel
  have hI := hY.1
  refine lv_aload_n hx hb dX4_drop_0 rfl (lv_at hl 0 rfl) ?_
  refine lv_iload_n hx hb dX4_drop_1 rfl (lv_at hl 1 rfl) ?_
  refine fw_callq (va_runV (As := [.int r0]) (rest := []) ⟨hx, hb, hml, hown, hts⟩ (c_X4_findRake l D kk ad n I O hj hI r0 _) (cwV 1 hts gX4_drop_X4_findRake rfl rfl rfl (by decide +kernel) ⟨Nat.le_of_ble_eq_true rfl, Nat.le_of_ble_eq_true rfl⟩) (fw_preV hK hP (ci := 4) rfl (x_at0 hj)) rfl rfl hl.1 rfl (lv_room (Nat.le_of_ble_eq_true rfl)) dX4_drop_2 ⟨Nat.le_of_ble_eq_true rfl, Nat.le_of_ble_eq_true rfl⟩) hD hS hA (fun r w1 H locs hq hP hD hS => ?_)
  obtain ⟨rfl, rfl⟩ := hq
  rcases oc (fnd 4 r0) with hf1 | ⟨i2, hf1⟩
  · refine W.eq (g2 := F0 m 5 ls [.null]) (by rw [hf1]; rfl) ?_
    refine lv_astore_nN (lv' := [(2, .null), (0, .ref (ad 0 0)), (1, .int r0)]) hx hb dX4_drop_5 rfl hl (by decide) rfl (fun ls hl => ?_)
    refine lv_aload_nN hx hb dX4_drop_6 rfl (lv_at hl 0 rfl) ?_
    refine lv_ifnonnullN hx hb dX4_drop_7 ?_
    refine lv_bipush (v := (-101)) hx hb dX4_drop_10 (by decide) ?_
    exact fw_iret hx hb hr hlocks hK hP hD hS dX4_drop_12 ⟨_, _, by simp [sp_drop, pif_True, pif_False, hf1], rfl⟩
  · have hi2 := (fnd_lt hf1).1
    refine W.eq (g2 := F0 m 5 ls [.ref (ad 7 i2)]) (by rw [hf1]; rfl) ?_
    refine lv_astore_n (lv' := [(2, .ref (ad 7 i2)), (0, .ref (ad 0 0)), (1, .int r0)]) hx hb dX4_drop_5 rfl hl (by decide) rfl (fun ls hl => ?_)
    refine lv_aload_n hx hb dX4_drop_6 rfl (lv_at hl 0 rfl) ?_
    refine lv_ifnonnull (tgt := 13) hx hb dX4_drop_7 (by decide) ?_
    refine lv_aload_n hx hb dX4_drop_13 rfl (lv_at hl 0 rfl) ?_
    refine lv_iconst (v := 0) hx hb dX4_drop_14 (by decide) ?_
    refine fw_put (v := .int 0) (ty := .boolean) (C := RX0) (T := TX0) (N := 4) hx hb hts in0 tyX0 tyX0_ok nmX0 hown hK hP hD hS (x_at7 hj hi2) rfl 0 (by decide) (hts (.fieldLink RX4 121 "WagonSidings$Rake" "made" "Z") (by decide +kernel)) (fun _ h9 => h9) rfl (by decide +kernel) rfl rfl (Nat.le_of_ble_eq_true rfl) dX4_drop_15 (x_put7_0 hj hi2) (fun H locs hP hD hS => ?_)
    refine lv_iconst (v := 1) hx hb dX4_drop_18 (by decide) ?_
    exact fw_iret hx hb hr hlocks hK hP hD hS dX4_drop_19 ⟨_, _, by simp [sp_drop, pif_True, pif_False, hf1], rfl⟩

set_option maxHeartbeats 4000000 in
set_option maxRecDepth 100000 in
theorem c_X4_places (l : Launch) (D : va_G) (kk : Nat → ClassId) (ad : Nat → Nat → Nat) (n : Nat) (I : sI) (O : sO) (hj : sj (xV n) ad) (hY : yI n I O) (r0 : Int32) : fw_Mi l yX4_places wsX4_places { frames := 2, cells := 0, slots := 0, locals := 44 } 0 0 D vwCl (xT kk) (xw kk ad n I O) [.ref (ad 0 0), .int r0] (fun r w1 => ∃ I1 O1, sp_places I O r0 = (r, I1, O1) ∧ w1 = xw kk ad n I1 O1) := by
  refine fw_ofi (cc := cX4_places) (maxL := 3) (ret := (some .int)) (by decide) rfl (Nat.le_of_ble_eq_true rfl) ?_
  intro p e s m args below meth c A ls hx hb hml hr hlocks hnm hts hown hK hP hD hA hS hl
  have hown : s.vm.findClass RX4 = some m.cls := hown
  have hl : lv_has ls 3 [(0, .ref (ad 0 0)), (1, .int r0)] := hl
  have in0 : ∀ w ∈ u_ws RX0 TX0 4, w ∈ wsX4_places := by decide +kernel
  have hI := hY.1
  refine lv_aload_n hx hb dX4_places_0 rfl (lv_at hl 0 rfl) ?_
  refine lv_iload_n hx hb dX4_places_1 rfl (lv_at hl 1 rfl) ?_
  refine fw_callq (va_runV (As := [.int r0]) (rest := []) ⟨hx, hb, hml, hown, hts⟩ (c_X4_findRake l D kk ad n I O hj hI r0 _) (cwV 1 hts gX4_places_X4_findRake rfl rfl rfl (by decide +kernel) ⟨Nat.le_of_ble_eq_true rfl, Nat.le_of_ble_eq_true rfl⟩) (fw_preV hK hP (ci := 4) rfl (x_at0 hj)) rfl rfl hl.1 rfl (lv_room (Nat.le_of_ble_eq_true rfl)) dX4_places_2 ⟨Nat.le_of_ble_eq_true rfl, Nat.le_of_ble_eq_true rfl⟩) hD hS hA (fun r w1 H locs hq hP hD hS => ?_)
  obtain ⟨rfl, rfl⟩ := hq
  rcases oc (fnd 4 r0) with hf1 | ⟨i2, hf1⟩
  · refine W.eq (g2 := F0 m 5 ls [.null]) (by rw [hf1]; rfl) ?_
    refine lv_astore_nN (lv' := [(2, .null), (0, .ref (ad 0 0)), (1, .int r0)]) hx hb dX4_places_5 rfl hl (by decide) rfl (fun ls hl => ?_)
    refine lv_aload_nN hx hb dX4_places_6 rfl (lv_at hl 0 rfl) ?_
    refine lv_ifnonnullN hx hb dX4_places_7 ?_
    refine lv_bipush (v := (-101)) hx hb dX4_places_10 (by decide) ?_
    exact fw_iret hx hb hr hlocks hK hP hD hS dX4_places_12 ⟨_, _, by simp [sp_places, pif_True, pif_False, hf1], rfl⟩
  · have hi2 := (fnd_lt hf1).1
    refine W.eq (g2 := F0 m 5 ls [.ref (ad 7 i2)]) (by rw [hf1]; rfl) ?_
    refine lv_astore_n (lv' := [(2, .ref (ad 7 i2)), (0, .ref (ad 0 0)), (1, .int r0)]) hx hb dX4_places_5 rfl hl (by decide) rfl (fun ls hl => ?_)
    refine lv_aload_n hx hb dX4_places_6 rfl (lv_at hl 0 rfl) ?_
    refine lv_ifnonnull (tgt := 13) hx hb dX4_places_7 (by decide) ?_
    refine lv_aload_n hx hb dX4_places_13 rfl (lv_at hl 0 rfl) ?_
    refine fw_get (v := .int (I 5 i2)) (C := RX0) (T := TX0) (N := 4) hx hb hts in0 hown hK hP (x_at7 hj hi2) rfl 0 (by decide) (hts (.fieldLink RX4 121 "WagonSidings$Rake" "made" "Z") (by decide +kernel)) (fun _ h9 => h9) rfl dX4_places_14 ?_
    refine lv_if_eq (tgt := 32) hx hb dX4_places_17 (by decide) (fun c_17 => ?_) (fun c_17 => ?_)
    · refine lv_aload_n hx hb dX4_places_32 rfl (lv_at hl 1 rfl) ?_
      refine lv_iconst (v := 1) hx hb dX4_places_33 (by decide) ?_
      refine lv_iconst (v := 0) hx hb dX4_places_34 (by decide) ?_
      refine fw_calli (va_runV (As := [.int 1, .int 0]) (rest := []) ⟨hx, hb, hml, hown, hts⟩ (c_X4_fail l D kk ad n I O hj hI 1 0 _) (cwV 2 hts gX4_places_X4_fail rfl rfl rfl (by decide +kernel) ⟨Nat.le_of_ble_eq_true rfl, Nat.le_of_ble_eq_true rfl⟩) (fw_preV hK hP (ci := 4) rfl (x_at0 hj)) rfl rfl hl.1 rfl (lv_room (Nat.le_of_ble_eq_true rfl)) dX4_places_35 ⟨Nat.le_of_ble_eq_true rfl, Nat.le_of_ble_eq_true rfl⟩) hD hS hA (fun r w1 H locs hq hP hD hS => ?_)
      obtain ⟨rfl, rfl⟩ := hq
      exact fw_iret hx hb hr hlocks hK hP hD hS dX4_places_38 ⟨_, _, by simp [sp_places, pif_True, pif_False, hf1, eq_true c_17], rfl⟩
    · refine lv_aload_n hx hb dX4_places_20 rfl (lv_at hl 1 rfl) ?_
      refine lv_iconst (v := 0) hx hb dX4_places_21 (by decide) ?_
      refine lv_aload_n hx hb dX4_places_22 rfl (lv_at hl 0 rfl) ?_
      refine fw_get (v := .int (I 7 i2)) (C := RX0) (T := TX0) (N := 4) hx hb hts in0 hown hK hP (x_at7 hj hi2) rfl 2 (by decide) (hts (.fieldLink RX4 131 "WagonSidings$Rake" "size" "I") (by decide +kernel)) (fun _ h9 => h9) rfl dX4_places_23 ?_
      refine fw_calli (va_runV (As := [.int 0, .int (I 7 i2)]) (rest := []) ⟨hx, hb, hml, hown, hts⟩ (c_X4_succeed l D kk ad n I O hj hI 0 (I 7 i2) _) (cwV 2 hts gX4_places_X4_succeed rfl rfl rfl (by decide +kernel) ⟨Nat.le_of_ble_eq_true rfl, Nat.le_of_ble_eq_true rfl⟩) (fw_preV hK hP (ci := 4) rfl (x_at0 hj)) rfl rfl hl.1 rfl (lv_room (Nat.le_of_ble_eq_true rfl)) dX4_places_26 ⟨Nat.le_of_ble_eq_true rfl, Nat.le_of_ble_eq_true rfl⟩) hD hS hA (fun r w1 H locs hq hP hD hS => ?_)
      obtain ⟨rfl, rfl⟩ := hq
      refine lv_goto (tgt := 38) hx hb dX4_places_29 (by decide) ?_
      exact fw_iret hx hb hr hlocks hK hP hD hS dX4_places_38 ⟨_, _, by simp [sp_places, pif_True, pif_False, hf1, c_17], rfl⟩

set_option maxHeartbeats 4000000 in
set_option maxRecDepth 100000 in
theorem c_X4_table (l : Launch) (D : va_G) (kk : Nat → ClassId) (ad : Nat → Nat → Nat) (n : Nat) (I : sI) (O : sO) (hj : sj (xV n) ad) (hY : yI n I O) (t a b : Int32) : fw_Mi l yX4_table wsX4_table { frames := 2, cells := 0, slots := 0, locals := 44 } 0 0 D vwCl (xT kk) (xw kk ad n I O) [.ref (ad 0 0), .int t, .int a, .int b] (fun r w1 => ∃ I1 O1, sp_table I O t a b = (r, I1, O1) ∧ w1 = xw kk ad n I1 O1) := by
  refine fw_ofi (cc := cX4_table) (maxL := 5) (ret := (some .int)) (by decide) rfl (Nat.le_of_ble_eq_true rfl) ?_
  intro p e s m args below meth c A ls hx hb hml hr hlocks hnm hts hown hK hP hD hA hS hl
  have hown : s.vm.findClass RX4 = some m.cls := hown
  have hl : lv_has ls 5 [(0, .ref (ad 0 0)), (1, .int t), (2, .int a), (3, .int b)] := hl
  have hI := hY.1
  refine lv_aload_n hx hb dX4_table_0 rfl (lv_at hl 0 rfl) ?_
  refine lv_iload_n hx hb dX4_table_1 rfl (lv_at hl 1 rfl) ?_
  refine fw_callq (va_runV (As := [.int t]) (rest := []) ⟨hx, hb, hml, hown, hts⟩ (c_X4_findTable l D kk ad n I O hj hI t _) (cwV 1 hts gX4_table_X4_findTable rfl rfl rfl (by decide +kernel) ⟨Nat.le_of_ble_eq_true rfl, Nat.le_of_ble_eq_true rfl⟩) (fw_preV hK hP (ci := 4) rfl (x_at0 hj)) rfl rfl hl.1 rfl (lv_room (Nat.le_of_ble_eq_true rfl)) dX4_table_2 ⟨Nat.le_of_ble_eq_true rfl, Nat.le_of_ble_eq_true rfl⟩) hD hS hA (fun r w1 H locs hq hP hD hS => ?_)
  obtain ⟨rfl, rfl⟩ := hq
  rcases oc (fnd 2 t) with hf1 | ⟨i2, hf1⟩
  · refine W.eq (g2 := F0 m 5 ls [.null]) (by rw [hf1]; rfl) ?_
    refine lv_astoreN (lv' := [(4, .null), (0, .ref (ad 0 0)), (1, .int t), (2, .int a), (3, .int b)]) hx hb dX4_table_5 hl (by decide) rfl (fun ls hl => ?_)
    refine lv_aloadN hx hb dX4_table_7 (lv_at hl 0 rfl) ?_
    refine lv_ifnonnullN hx hb dX4_table_9 ?_
    refine lv_bipush (v := (-101)) hx hb dX4_table_12 (by decide) ?_
    exact fw_iret hx hb hr hlocks hK hP hD hS dX4_table_14 ⟨_, _, by simp [sp_table, pif_True, pif_False, hf1], rfl⟩
  · have hi2 := (fnd_lt hf1).1
    refine W.eq (g2 := F0 m 5 ls [.ref (ad 9 i2)]) (by rw [hf1]; rfl) ?_
    refine lv_astore (lv' := [(4, .ref (ad 9 i2)), (0, .ref (ad 0 0)), (1, .int t), (2, .int a), (3, .int b)]) hx hb dX4_table_5 hl (by decide) rfl (fun ls hl => ?_)
    refine lv_aload hx hb dX4_table_7 (lv_at hl 0 rfl) ?_
    refine lv_ifnonnull (tgt := 15) hx hb dX4_table_9 (by decide) ?_
    refine lv_iload_n hx hb dX4_table_15 rfl (lv_at hl 3 rfl) ?_
    refine lv_bipush (v := 12) hx hb dX4_table_16 (by decide) ?_
    refine lv_icmp_gt (tgt := 31) hx hb dX4_table_18 (by decide) (fun c_18 => ?_) (fun c_18 => ?_)
    · refine lv_bipush (v := (-102)) hx hb dX4_table_31 (by decide) ?_
      exact fw_iret hx hb hr hlocks hK hP hD hS dX4_table_33 ⟨_, _, by simp [sp_table, pif_True, pif_False, hf1, c_18, Int32.not_le.mpr c_18], rfl⟩
    · refine lv_iload_n hx hb dX4_table_21 rfl (lv_at hl 4 rfl) ?_
      refine lv_if_lt (tgt := 31) hx hb dX4_table_22 (by decide) (fun c_22 => ?_) (fun c_22 => ?_)
      · refine lv_bipush (v := (-102)) hx hb dX4_table_31 (by decide) ?_
        exact fw_iret hx hb hr hlocks hK hP hD hS dX4_table_33 ⟨_, _, by simp [sp_table, pif_True, pif_False, hf1, c_18, Int32.not_lt.mp c_18, c_22, Int32.not_le.mpr c_22], rfl⟩
      · refine lv_iload_n hx hb dX4_table_25 rfl (lv_at hl 4 rfl) ?_
        refine lv_bipush (v := 6) hx hb dX4_table_26 (by decide) ?_
        refine lv_icmp_le (tgt := 34) hx hb dX4_table_28 (by decide) (fun c_28 => ?_) (fun c_28 => ?_)
        · refine lv_iload_n hx hb dX4_table_34 rfl (lv_at hl 3 rfl) ?_
          refine lv_if_ge (tgt := 45) hx hb dX4_table_35 (by decide) (fun c_35 => ?_) (fun c_35 => ?_)
          · refine lv_aload hx hb dX4_table_45 (lv_at hl 0 rfl) ?_
            refine lv_iload_n hx hb dX4_table_47 rfl (lv_at hl 3 rfl) ?_
            refine lv_iload_n hx hb dX4_table_48 rfl (lv_at hl 4 rfl) ?_
            refine fw_callv (va_runV (As := [.int a, .int b]) (rest := []) ⟨hx, hb, hml, hown, hts⟩ (c_X1_renew l D kk ad n I O hj hI hi2 a b _) (cwV 2 hts gX4_table_X1_renew rfl rfl rfl (by decide +kernel) ⟨Nat.le_of_ble_eq_true rfl, Nat.le_of_ble_eq_true rfl⟩) (fw_preV hK hP (ci := 1) rfl (x_at9 hj hi2)) rfl rfl hl.1 rfl (lv_room (Nat.le_of_ble_eq_true rfl)) dX4_table_49 ⟨Nat.le_of_ble_eq_true rfl, Nat.le_of_ble_eq_true rfl⟩) hD hS hA (fun w1 H locs hq hP hD hS => ?_)
            subst hq
            refine lv_aload_n hx hb dX4_table_52 rfl (lv_at hl 1 rfl) ?_
            refine lv_iconst (v := 0) hx hb dX4_table_53 (by decide) ?_
            refine lv_iconst (v := 1) hx hb dX4_table_54 (by decide) ?_
            refine fw_calli (va_runV (As := [.int 0, .int 1]) (rest := []) ⟨hx, hb, hml, hown, hts⟩ (c_X4_succeed l D kk ad n (clrI (upI (upI (upI I 8 i2 1) 9 i2 a) 10 i2 b) (20 + i2)) O hj hI 0 1 _) (cwV 2 hts gX4_table_X4_succeed rfl rfl rfl (by decide +kernel) ⟨Nat.le_of_ble_eq_true rfl, Nat.le_of_ble_eq_true rfl⟩) (fw_preV hK hP (ci := 4) rfl (x_at0 hj)) rfl rfl hl.1 rfl (lv_room (Nat.le_of_ble_eq_true rfl)) dX4_table_55 ⟨Nat.le_of_ble_eq_true rfl, Nat.le_of_ble_eq_true rfl⟩) hD hS hA (fun r w1 H locs hq hP hD hS => ?_)
            obtain ⟨rfl, rfl⟩ := hq
            exact fw_iret hx hb hr hlocks hK hP hD hS dX4_table_58 ⟨_, _, by simp [sp_table, pif_True, pif_False, hf1, c_18, Int32.not_lt.mp c_18, c_22, Int32.not_lt.mp c_22, c_28, Int32.not_lt.mpr c_28, c_35, Int32.not_lt.mpr c_35], rfl⟩
          · refine lv_aload_n hx hb dX4_table_38 rfl (lv_at hl 1 rfl) ?_
            refine lv_iconst (v := 2) hx hb dX4_table_39 (by decide) ?_
            refine lv_iconst (v := 0) hx hb dX4_table_40 (by decide) ?_
            refine fw_calli (va_runV (As := [.int 2, .int 0]) (rest := []) ⟨hx, hb, hml, hown, hts⟩ (c_X4_fail l D kk ad n I O hj hI 2 0 _) (cwV 2 hts gX4_table_X4_fail rfl rfl rfl (by decide +kernel) ⟨Nat.le_of_ble_eq_true rfl, Nat.le_of_ble_eq_true rfl⟩) (fw_preV hK hP (ci := 4) rfl (x_at0 hj)) rfl rfl hl.1 rfl (lv_room (Nat.le_of_ble_eq_true rfl)) dX4_table_41 ⟨Nat.le_of_ble_eq_true rfl, Nat.le_of_ble_eq_true rfl⟩) hD hS hA (fun r w1 H locs hq hP hD hS => ?_)
            obtain ⟨rfl, rfl⟩ := hq
            exact fw_iret hx hb hr hlocks hK hP hD hS dX4_table_44 ⟨_, _, by simp [sp_table, pif_True, pif_False, hf1, c_18, Int32.not_lt.mp c_18, c_22, Int32.not_lt.mp c_22, c_28, Int32.not_lt.mpr c_28, c_35, Int32.not_le.mp c_35], rfl⟩
        · refine lv_bipush (v := (-102)) hx hb dX4_table_31 (by decide) ?_
          exact fw_iret hx hb hr hlocks hK hP hD hS dX4_table_33 ⟨_, _, by simp [sp_table, pif_True, pif_False, hf1, c_18, Int32.not_lt.mp c_18, c_22, Int32.not_lt.mp c_22, c_28, Int32.not_le.mp c_28], rfl⟩

set_option maxHeartbeats 4000000 in
set_option maxRecDepth 100000 in
theorem c_X4_raise (l : Launch) (D : va_G) (kk : Nat → ClassId) (ad : Nat → Nat → Nat) (n : Nat) (I : sI) (O : sO) (hj : sj (xV n) ad) (hY : yI n I O) (t : Int32) : fw_Mi l yX4_raise wsX4_raise { frames := 2, cells := 0, slots := 0, locals := 44 } 0 0 D vwCl (xT kk) (xw kk ad n I O) [.ref (ad 0 0), .int t] (fun r w1 => ∃ I1 O1, sp_raise I O t = (r, I1, O1) ∧ w1 = xw kk ad n I1 O1) := by
  refine fw_ofi (cc := cX4_raise) (maxL := 4) (ret := (some .int)) (by decide) rfl (Nat.le_of_ble_eq_true rfl) ?_
  intro p e s m args below meth c A ls hx hb hml hr hlocks hnm hts hown hK hP hD hA hS hl
  have hown : s.vm.findClass RX4 = some m.cls := hown
  have hl : lv_has ls 4 [(0, .ref (ad 0 0)), (1, .int t)] := hl
  have in2 : ∀ w ∈ u_ws RX2 TX2 2, w ∈ wsX4_raise := by decide +kernel
  have in4 : ∀ w ∈ u_ws RX4 TX4 8, w ∈ wsX4_raise := by decide +kernel
  have hI := hY.1
  refine lv_aload_n hx hb dX4_raise_0 rfl (lv_at hl 0 rfl) ?_
  refine lv_iload_n hx hb dX4_raise_1 rfl (lv_at hl 1 rfl) ?_
  refine fw_callq (va_runV (As := [.int t]) (rest := []) ⟨hx, hb, hml, hown, hts⟩ (c_X4_findTrack l D kk ad n I O hj hI t _) (cwV 1 hts gX4_raise_X4_findTrack rfl rfl rfl (by decide +kernel) ⟨Nat.le_of_ble_eq_true rfl, Nat.le_of_ble_eq_true rfl⟩) (fw_preV hK hP (ci := 4) rfl (x_at0 hj)) rfl rfl hl.1 rfl (lv_room (Nat.le_of_ble_eq_true rfl)) dX4_raise_2 ⟨Nat.le_of_ble_eq_true rfl, Nat.le_of_ble_eq_true rfl⟩) hD hS hA (fun r w1 H locs hq hP hD hS => ?_)
  obtain ⟨rfl, rfl⟩ := hq
  rcases oc (fnd 6 t) with hf1 | ⟨i2, hf1⟩
  · refine W.eq (g2 := F0 m 5 ls [.null]) (by rw [hf1]; rfl) ?_
    refine lv_astore_nN (lv' := [(2, .null), (0, .ref (ad 0 0)), (1, .int t)]) hx hb dX4_raise_5 rfl hl (by decide) rfl (fun ls hl => ?_)
    refine lv_aload_nN hx hb dX4_raise_6 rfl (lv_at hl 0 rfl) ?_
    refine lv_ifnonnullN hx hb dX4_raise_7 ?_
    refine lv_bipush (v := (-101)) hx hb dX4_raise_10 (by decide) ?_
    exact fw_iret hx hb hr hlocks hK hP hD hS dX4_raise_12 ⟨_, _, by simp [sp_raise, pif_True, pif_False, tl_4, hf1], rfl⟩
  · have hi2 := (fnd_lt hf1).1
    refine W.eq (g2 := F0 m 5 ls [.ref (ad 6 i2)]) (by rw [hf1]; rfl) ?_
    refine lv_astore_n (lv' := [(2, .ref (ad 6 i2)), (0, .ref (ad 0 0)), (1, .int t)]) hx hb dX4_raise_5 rfl hl (by decide) rfl (fun ls hl => ?_)
    refine lv_aload_n hx hb dX4_raise_6 rfl (lv_at hl 0 rfl) ?_
    refine lv_ifnonnull (tgt := 13) hx hb dX4_raise_7 (by decide) ?_
    refine lv_aload_n hx hb dX4_raise_13 rfl (lv_at hl 0 rfl) ?_
    refine fw_get (v := .int (I 4 i2)) (C := RX2) (T := TX2) (N := 2) hx hb hts in2 hown hK hP (x_at6 hj hi2) rfl 1 (by decide) (hts (.fieldLink RX4 77 "WagonSidings$Track" "hung" "I") (by decide +kernel)) (fun _ h9 => h9) rfl dX4_raise_14 ?_
    refine lv_iconst (v := (-1)) hx hb dX4_raise_17 (by decide) ?_
    refine lv_icmp_ne (tgt := 28) hx hb dX4_raise_18 (by decide) (fun c_18 => ?_) (fun c_18 => ?_)
    · refine lv_aload_n hx hb dX4_raise_28 rfl (lv_at hl 1 rfl) ?_
      refine lv_bipush (v := 6) hx hb dX4_raise_29 (by decide) ?_
      refine lv_iconst (v := 0) hx hb dX4_raise_31 (by decide) ?_
      refine fw_calli (va_runV (As := [.int 6, .int 0]) (rest := []) ⟨hx, hb, hml, hown, hts⟩ (c_X4_fail l D kk ad n I O hj hI 6 0 _) (cwV 2 hts gX4_raise_X4_fail rfl rfl rfl (by decide +kernel) ⟨Nat.le_of_ble_eq_true rfl, Nat.le_of_ble_eq_true rfl⟩) (fw_preV hK hP (ci := 4) rfl (x_at0 hj)) rfl rfl hl.1 rfl (lv_room (Nat.le_of_ble_eq_true rfl)) dX4_raise_32 ⟨Nat.le_of_ble_eq_true rfl, Nat.le_of_ble_eq_true rfl⟩) hD hS hA (fun r w1 H locs hq hP hD hS => ?_)
      obtain ⟨rfl, rfl⟩ := hq
      refine lv_istore_n (lv' := [(3, .int (-200 - 6)), (2, .ref (ad 6 i2)), (0, .ref (ad 0 0)), (1, .int t)]) hx hb dX4_raise_35 rfl hl (by decide) rfl (fun ls hl => ?_)
      refine lv_aload_n hx hb dX4_raise_36 rfl (lv_at hl 2 rfl) ?_
      refine lv_aload_n hx hb dX4_raise_37 rfl (lv_at hl 1 rfl) ?_
      refine fw_get (v := .int ((tl I 6 0) 4 i2)) (C := RX2) (T := TX2) (N := 2) hx hb hts in2 hown hK hP (x_at6 hj hi2) rfl 1 (by decide) (hts (.fieldLink RX4 77 "WagonSidings$Track" "hung" "I") (by decide +kernel)) (fun _ h9 => h9) rfl dX4_raise_38 ?_
      refine fw_put (v := .int ((tl I 6 0) 4 i2)) (ty := .int) (C := RX4) (T := TX4) (N := 8) hx hb hts in4 tyX4 tyX4_ok nmX4 hown hK hP hD hS (x_at0 hj) rfl 7 (by decide) (hts (.fieldLink RX4 146 "WagonSidings" "toldSignal" "I") (by decide +kernel)) (fun _ h9 => h9) rfl (by decide +kernel) rfl rfl (Nat.le_of_ble_eq_true rfl) dX4_raise_41 (x_put0_7 hj) (fun H locs hP hD hS => ?_)
      refine lv_iload_n hx hb dX4_raise_44 rfl (lv_at hl 0 rfl) ?_
      exact fw_iret hx hb hr hlocks hK hP hD hS dX4_raise_45 ⟨_, _, by simp [sp_raise, pif_True, pif_False, tl_4, hf1, c_18], rfl⟩
    · refine lv_aload_n hx hb dX4_raise_21 rfl (lv_at hl 1 rfl) ?_
      refine lv_iconst (v := 1) hx hb dX4_raise_22 (by decide) ?_
      refine lv_iconst (v := 0) hx hb dX4_raise_23 (by decide) ?_
      refine fw_calli (va_runV (As := [.int 1, .int 0]) (rest := []) ⟨hx, hb, hml, hown, hts⟩ (c_X4_fail l D kk ad n I O hj hI 1 0 _) (cwV 2 hts gX4_raise_X4_fail rfl rfl rfl (by decide +kernel) ⟨Nat.le_of_ble_eq_true rfl, Nat.le_of_ble_eq_true rfl⟩) (fw_preV hK hP (ci := 4) rfl (x_at0 hj)) rfl rfl hl.1 rfl (lv_room (Nat.le_of_ble_eq_true rfl)) dX4_raise_24 ⟨Nat.le_of_ble_eq_true rfl, Nat.le_of_ble_eq_true rfl⟩) hD hS hA (fun r w1 H locs hq hP hD hS => ?_)
      obtain ⟨rfl, rfl⟩ := hq
      exact fw_iret hx hb hr hlocks hK hP hD hS dX4_raise_27 ⟨_, _, by simp [sp_raise, pif_True, pif_False, tl_4, hf1, eq_true c_18], rfl⟩

set_option maxHeartbeats 4000000 in
set_option maxRecDepth 100000 in
theorem c_X4_told (l : Launch) (D : va_G) (kk : Nat → ClassId) (ad : Nat → Nat → Nat) (n : Nat) (I : sI) (O : sO) (hj : sj (xV n) ad) (hY : yI n I O) (q : Int32) : fw_Mi l yX4_told wsX4_told { frames := 0, cells := 0, slots := 0, locals := 0 } 0 0 D vwCl (xT kk) (xw kk ad n I O) [.ref (ad 0 0), .int q] (fun r w1 => sp_told I q = r ∧ w1 = xw kk ad n I O) := by
  refine fw_ofi (cc := cX4_told) (maxL := 2) (ret := (some .int)) (by decide) rfl (Nat.le_of_ble_eq_true rfl) ?_
  intro p e s m args below meth c A ls hx hb hml hr hlocks hnm hts hown hK hP hD hA hS hl
  have hown : s.vm.findClass RX4 = some m.cls := hown
  have hl : lv_has ls 2 [(0, .ref (ad 0 0)), (1, .int q)] := hl
  have in4 : ∀ w ∈ u_ws RX4 TX4 8, w ∈ wsX4_told := by decide +kernel
  have hI := hY.1
  refine lv_iload_n hx hb dX4_told_0 rfl (lv_at hl 1 rfl) ?_
  by_cases k_1_0 : q = 0
  · refine lv_tableIn (tgt := 28) hx hb dX4_told_1 (by rw [k_1_0]; decide) (by rw [k_1_0]; decide) (by rw [k_1_0]; rfl) (by decide) ?_
    refine lv_aload_n hx hb dX4_told_28 rfl (lv_at hl 0 rfl) ?_
    refine fw_get (v := .int (I 11 0)) (C := RX4) (T := TX4) (N := 8) hx hb hts in4 hown hK hP (x_at0 hj) rfl 5 (by decide) (hts (.fieldLink RX4 149 "WagonSidings" "toldFailure" "I") (by decide +kernel)) (fun _ h9 => h9) rfl dX4_told_29 ?_
    exact fw_iret hx hb hr hlocks hK hP hD hS dX4_told_32 ⟨by simp [sp_told, eq_true k_1_0], rfl⟩
  by_cases k_1_1 : q = 1
  · refine lv_tableIn (tgt := 33) hx hb dX4_told_1 (by rw [k_1_1]; decide) (by rw [k_1_1]; decide) (by rw [k_1_1]; rfl) (by decide) ?_
    refine lv_aload_n hx hb dX4_told_33 rfl (lv_at hl 0 rfl) ?_
    refine fw_get (v := .int (I 11 1)) (C := RX4) (T := TX4) (N := 8) hx hb hts in4 hown hK hP (x_at0 hj) rfl 6 (by decide) (hts (.fieldLink RX4 152 "WagonSidings" "toldCount" "I") (by decide +kernel)) (fun _ h9 => h9) rfl dX4_told_34 ?_
    exact fw_iret hx hb hr hlocks hK hP hD hS dX4_told_37 ⟨by simp [sp_told, k_1_0, eq_true k_1_1], rfl⟩
  by_cases k_1_2 : q = 2
  · refine lv_tableIn (tgt := 38) hx hb dX4_told_1 (by rw [k_1_2]; decide) (by rw [k_1_2]; decide) (by rw [k_1_2]; rfl) (by decide) ?_
    refine lv_aload_n hx hb dX4_told_38 rfl (lv_at hl 0 rfl) ?_
    refine fw_get (v := .int (I 11 2)) (C := RX4) (T := TX4) (N := 8) hx hb hts in4 hown hK hP (x_at0 hj) rfl 7 (by decide) (hts (.fieldLink RX4 146 "WagonSidings" "toldSignal" "I") (by decide +kernel)) (fun _ h9 => h9) rfl dX4_told_39 ?_
    exact fw_iret hx hb hr hlocks hK hP hD hS dX4_told_42 ⟨by simp [sp_told, k_1_0, k_1_1, eq_true k_1_2], rfl⟩
  refine lv_tableOut (tgt := 43) hx hb dX4_told_1 (by have z0 := lv_neT (a := 0) k_1_0 (by decide); have z1 := lv_neT (a := 1) k_1_1 (by decide); have z2 := lv_neT (a := 2) k_1_2 (by decide); omega) (by decide) ?_
  refine lv_bipush (v := (-101)) hx hb dX4_told_43 (by decide) ?_
  exact fw_iret hx hb hr hlocks hK hP hD hS dX4_told_45 ⟨by simp [sp_told, k_1_0, k_1_1, k_1_2], rfl⟩

set_option maxHeartbeats 4000000 in
set_option maxRecDepth 100000 in
theorem c_X4_about (l : Launch) (D : va_G) (kk : Nat → ClassId) (ad : Nat → Nat → Nat) (n : Nat) (I : sI) (O : sO) (hj : sj (xV n) ad) (hY : yI n I O) (a q : Int32) : fw_Mi l yX4_about wsX4_about { frames := 1, cells := 0, slots := 0, locals := 21 } 0 0 D vwCl (xT kk) (xw kk ad n I O) [.ref (ad 0 0), .int a, .int q] (fun r w1 => sp_about n I O a q = r ∧ w1 = xw kk ad n I O) := by
  refine fw_ofi (cc := cX4_about) (maxL := 4) (ret := (some .int)) (by decide) rfl (Nat.le_of_ble_eq_true rfl) ?_
  intro p e s m args below meth c A ls hx hb hml hr hlocks hnm hts hown hK hP hD hA hS hl
  have hown : s.vm.findClass RX4 = some m.cls := hown
  have hl : lv_has ls 4 [(0, .ref (ad 0 0)), (1, .int a), (2, .int q)] := hl
  have in3 : ∀ w ∈ u_ws RX3 TX3 6, w ∈ wsX4_about := by decide +kernel
  have hI := hY.1
  refine lv_aload_n hx hb dX4_about_0 rfl (lv_at hl 0 rfl) ?_
  refine lv_iload_n hx hb dX4_about_1 rfl (lv_at hl 1 rfl) ?_
  refine fw_callq (va_runV (As := [.int a]) (rest := []) ⟨hx, hb, hml, hown, hts⟩ (c_X4_findWagon l D kk ad n I O hj hI a _) (cwV 1 hts gX4_about_X4_findWagon rfl rfl rfl (by decide +kernel) ⟨Nat.le_of_ble_eq_true rfl, Nat.le_of_ble_eq_true rfl⟩) (fw_preV hK hP (ci := 4) rfl (x_at0 hj)) rfl rfl hl.1 rfl (lv_room (Nat.le_of_ble_eq_true rfl)) dX4_about_2 ⟨Nat.le_of_ble_eq_true rfl, Nat.le_of_ble_eq_true rfl⟩) hD hS hA (fun r w1 H locs hq hP hD hS => ?_)
  obtain ⟨rfl, rfl⟩ := hq
  rcases oc (fnd n a) with hf1 | ⟨i2, hf1⟩
  · refine W.eq (g2 := F0 m 5 ls [.null]) (by rw [hf1]; rfl) ?_
    refine lv_astore_nN (lv' := [(3, .null), (0, .ref (ad 0 0)), (1, .int a), (2, .int q)]) hx hb dX4_about_5 rfl hl (by decide) rfl (fun ls hl => ?_)
    refine lv_aload_nN hx hb dX4_about_6 rfl (lv_at hl 0 rfl) ?_
    refine lv_ifnonnullN hx hb dX4_about_7 ?_
    refine lv_bipush (v := (-101)) hx hb dX4_about_10 (by decide) ?_
    exact fw_iret hx hb hr hlocks hK hP hD hS dX4_about_12 ⟨by simp [sp_about, num, hf1], rfl⟩
  · have hi2 := (fnd_lt hf1).1
    refine W.eq (g2 := F0 m 5 ls [.ref (ad 5 i2)]) (by rw [hf1]; rfl) ?_
    refine lv_astore_n (lv' := [(3, .ref (ad 5 i2)), (0, .ref (ad 0 0)), (1, .int a), (2, .int q)]) hx hb dX4_about_5 rfl hl (by decide) rfl (fun ls hl => ?_)
    refine lv_aload_n hx hb dX4_about_6 rfl (lv_at hl 0 rfl) ?_
    refine lv_ifnonnull (tgt := 13) hx hb dX4_about_7 (by decide) ?_
    refine lv_iload_n hx hb dX4_about_13 rfl (lv_at hl 3 rfl) ?_
    by_cases k_14_0 : q = 0
    · refine lv_tableIn (tgt := 44) hx hb dX4_about_14 (by rw [k_14_0]; decide) (by rw [k_14_0]; decide) (by rw [k_14_0]; rfl) (by decide) ?_
      refine lv_aload_n hx hb dX4_about_44 rfl (lv_at hl 0 rfl) ?_
      refine fw_get (v := .int (I 0 i2)) (C := RX3) (T := TX3) (N := 6) hx hb hts in3 hown hK hP (x_at5 hj hi2) rfl 1 (by decide) (hts (.fieldLink RX4 97 "WagonSidings$Wagon" "kind" "I") (by decide +kernel)) (fun _ h9 => h9) rfl dX4_about_45 ?_
      exact fw_iret hx hb hr hlocks hK hP hD hS dX4_about_48 ⟨by simp [sp_about, num, hf1, eq_true k_14_0], rfl⟩
    by_cases k_14_1 : q = 1
    · refine lv_tableIn (tgt := 49) hx hb dX4_about_14 (by rw [k_14_1]; decide) (by rw [k_14_1]; decide) (by rw [k_14_1]; rfl) (by decide) ?_
      refine lv_aload_n hx hb dX4_about_49 rfl (lv_at hl 0 rfl) ?_
      refine fw_get (v := .int (I 1 i2)) (C := RX3) (T := TX3) (N := 6) hx hb hts in3 hown hK hP (x_at5 hj hi2) rfl 2 (by decide) (hts (.fieldLink RX4 91 "WagonSidings$Wagon" "cargo" "I") (by decide +kernel)) (fun _ h9 => h9) rfl dX4_about_50 ?_
      exact fw_iret hx hb hr hlocks hK hP hD hS dX4_about_53 ⟨by simp [sp_about, num, hf1, k_14_0, eq_true k_14_1], rfl⟩
    by_cases k_14_2 : q = 2
    · refine lv_tableIn (tgt := 54) hx hb dX4_about_14 (by rw [k_14_2]; decide) (by rw [k_14_2]; decide) (by rw [k_14_2]; rfl) (by decide) ?_
      refine lv_aload_n hx hb dX4_about_54 rfl (lv_at hl 0 rfl) ?_
      rcases oc (O 0 i2) with ho3 | ⟨j4, ho3⟩
      · refine fw_get (v := .null) (C := RX3) (T := TX3) (N := 6) hx hb hts in3 hown hK hP (x_at5 hj hi2) rfl 3 (by decide) (hts (.fieldLink RX4 51 "WagonSidings$Wagon" "behind" "LWagonSidings$Wagon;") (by decide +kernel)) (fun _ h9 => h9) (by rw [ho3]; rfl) dX4_about_55 ?_
        refine fw_calli (va_runS (As := [.null]) (rest := []) ⟨hx, hb, hml, hown, hts⟩ (c_X4_numberOfN l D kk _ _) (va_cwS 1 hts gX4_about_X4_numberOf rfl rfl rfl (by decide +kernel) ⟨Nat.le_of_ble_eq_true rfl, Nat.le_of_ble_eq_true rfl⟩) (fw_preS hK hP) rfl rfl hl.1 rfl (lv_room (Nat.le_of_ble_eq_true rfl)) dX4_about_58 ⟨Nat.le_of_ble_eq_true rfl, Nat.le_of_ble_eq_true rfl⟩) hD hS hA (fun r w1 H locs hq hP hD hS => ?_)
        obtain ⟨rfl, rfl⟩ := hq
        exact fw_iret hx hb hr hlocks hK hP hD hS dX4_about_61 ⟨by simp [sp_about, num, hf1, k_14_0, k_14_1, eq_true k_14_2, ho3], rfl⟩
      · have hj4 := (hI.2.1 _ _ _ ho3)
        refine fw_get (v := .ref (ad 5 j4)) (C := RX3) (T := TX3) (N := 6) hx hb hts in3 hown hK hP (x_at5 hj hi2) rfl 3 (by decide) (hts (.fieldLink RX4 51 "WagonSidings$Wagon" "behind" "LWagonSidings$Wagon;") (by decide +kernel)) (fun _ h9 => h9) (by rw [ho3]; rfl) dX4_about_55 ?_
        refine fw_calli (va_runS (As := [.ref (ad 5 j4)]) (rest := []) ⟨hx, hb, hml, hown, hts⟩ (c_X4_numberOf l D kk ad n I O hj hj4 _) (va_cwS 1 hts gX4_about_X4_numberOf rfl rfl rfl (by decide +kernel) ⟨Nat.le_of_ble_eq_true rfl, Nat.le_of_ble_eq_true rfl⟩) (fw_preS hK hP) rfl rfl hl.1 rfl (lv_room (Nat.le_of_ble_eq_true rfl)) dX4_about_58 ⟨Nat.le_of_ble_eq_true rfl, Nat.le_of_ble_eq_true rfl⟩) hD hS hA (fun r w1 H locs hq hP hD hS => ?_)
        obtain ⟨rfl, rfl⟩ := hq
        exact fw_iret hx hb hr hlocks hK hP hD hS dX4_about_61 ⟨by simp [sp_about, num, hf1, k_14_0, k_14_1, eq_true k_14_2, ho3], rfl⟩
    by_cases k_14_3 : q = 3
    · refine lv_tableIn (tgt := 62) hx hb dX4_about_14 (by rw [k_14_3]; decide) (by rw [k_14_3]; decide) (by rw [k_14_3]; rfl) (by decide) ?_
      refine lv_aload_n hx hb dX4_about_62 rfl (lv_at hl 0 rfl) ?_
      refine fw_get (v := .int (I 3 i2)) (C := RX3) (T := TX3) (N := 6) hx hb hts in3 hown hK hP (x_at5 hj hi2) rfl 5 (by decide) (hts (.fieldLink RX4 59 "WagonSidings$Wagon" "firstOn" "I") (by decide +kernel)) (fun _ h9 => h9) rfl dX4_about_63 ?_
      exact fw_iret hx hb hr hlocks hK hP hD hS dX4_about_66 ⟨by simp [sp_about, num, hf1, k_14_0, k_14_1, k_14_2, eq_true k_14_3], rfl⟩
    refine lv_tableOut (tgt := 67) hx hb dX4_about_14 (by have z0 := lv_neT (a := 0) k_14_0 (by decide); have z1 := lv_neT (a := 1) k_14_1 (by decide); have z2 := lv_neT (a := 2) k_14_2 (by decide); have z3 := lv_neT (a := 3) k_14_3 (by decide); omega) (by decide) ?_
    refine lv_bipush (v := (-101)) hx hb dX4_about_67 (by decide) ?_
    exact fw_iret hx hb hr hlocks hK hP hD hS dX4_about_69 ⟨by simp [sp_about, num, hf1, k_14_0, k_14_1, k_14_2, k_14_3], rfl⟩
