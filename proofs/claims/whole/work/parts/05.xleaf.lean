set_option maxHeartbeats 4000000 in
set_option maxRecDepth 100000 in
theorem c_X4_isKind (l : Launch) (D : va_G) (kk : Nat → ClassId) (w : fw_W) (k : Int32) : fw_Mi l yX4_isKind wsX4_isKind { frames := 0, cells := 0, slots := 0, locals := 0 } 0 0 D vwCl (xT kk) w [.int k] (fun r w1 => r = pif (isKd k) 1 0 ∧ w1 = w) := by
  refine fw_ofi (cc := cX4_isKind) (maxL := 1) (ret := (some .boolean)) (by decide) rfl (Nat.le_of_ble_eq_true rfl) ?_
  intro p e s m args below meth c A ls hx hb hml hr hlocks hnm hts hown hK hP hD hA hS hl
  have hown : s.vm.findClass RX4 = some m.cls := hown
  have hl : lv_has ls 1 [(0, .int k)] := hl
  refine lv_iload_n hx hb dX4_isKind_0 rfl (lv_at hl 0 rfl) ?_
  refine lv_if_lt (tgt := 13) hx hb dX4_isKind_1 (by decide) (fun c_1 => ?_) (fun c_1 => ?_)
  · refine lv_iconst (v := 0) hx hb dX4_isKind_13 (by decide) ?_
    exact fw_zret hx hb hr (by decide) hlocks hK hP hD hS dX4_isKind_14 ⟨(pif_f (by first | (simp [isKd, c_1, Int32.not_le.mpr c_1]; done) | (unfold isKd;  clear hx hb hml hr hlocks hnm hts hown hK hP hD hA hS hl; grind))).symm, rfl⟩
  · refine lv_iload_n hx hb dX4_isKind_4 rfl (lv_at hl 0 rfl) ?_
    refine lv_iconst (v := 4) hx hb dX4_isKind_5 (by decide) ?_
    refine lv_icmp_gt (tgt := 13) hx hb dX4_isKind_6 (by decide) (fun c_6 => ?_) (fun c_6 => ?_)
    · refine lv_iconst (v := 0) hx hb dX4_isKind_13 (by decide) ?_
      exact fw_zret hx hb hr (by decide) hlocks hK hP hD hS dX4_isKind_14 ⟨(pif_f (by first | (simp [isKd, c_1, Int32.not_lt.mp c_1, c_6, Int32.not_le.mpr c_6]; done) | (unfold isKd;  clear hx hb hml hr hlocks hnm hts hown hK hP hD hA hS hl; grind))).symm, rfl⟩
    · refine lv_iconst (v := 1) hx hb dX4_isKind_9 (by decide) ?_
      refine lv_goto (tgt := 14) hx hb dX4_isKind_10 (by decide) ?_
      exact fw_zret hx hb hr (by decide) hlocks hK hP hD hS dX4_isKind_14 ⟨(pif_t (by first | (simp [isKd, c_1, Int32.not_lt.mp c_1, c_6, Int32.not_lt.mp c_6]; done) | (unfold isKd;  clear hx hb hml hr hlocks hnm hts hown hK hP hD hA hS hl; grind))).symm, rfl⟩

set_option maxHeartbeats 4000000 in
set_option maxRecDepth 100000 in
theorem c_X4_isOutsideTrack (l : Launch) (D : va_G) (kk : Nat → ClassId) (w : fw_W) (a : Int32) : fw_Mi l yX4_isOutsideTrack wsX4_isOutsideTrack { frames := 0, cells := 0, slots := 0, locals := 0 } 0 0 D vwCl (xT kk) w [.int a] (fun r w1 => r = pif (a < 0 ∨ 40 < a) 1 0 ∧ w1 = w) := by
  refine fw_ofi (cc := cX4_isOutsideTrack) (maxL := 1) (ret := (some .boolean)) (by decide) rfl (Nat.le_of_ble_eq_true rfl) ?_
  intro p e s m args below meth c A ls hx hb hml hr hlocks hnm hts hown hK hP hD hA hS hl
  have hown : s.vm.findClass RX4 = some m.cls := hown
  have hl : lv_has ls 1 [(0, .int a)] := hl
  refine lv_iload_n hx hb dX4_isOutsideTrack_0 rfl (lv_at hl 0 rfl) ?_
  refine lv_if_lt (tgt := 10) hx hb dX4_isOutsideTrack_1 (by decide) (fun c_1 => ?_) (fun c_1 => ?_)
  · refine lv_iconst (v := 1) hx hb dX4_isOutsideTrack_10 (by decide) ?_
    refine lv_goto (tgt := 15) hx hb dX4_isOutsideTrack_11 (by decide) ?_
    exact fw_zret hx hb hr (by decide) hlocks hK hP hD hS dX4_isOutsideTrack_15 ⟨(pif_t (by first | (simp [c_1, Int32.not_le.mpr c_1]; done) | ( clear hx hb hml hr hlocks hnm hts hown hK hP hD hA hS hl; grind))).symm, rfl⟩
  · refine lv_iload_n hx hb dX4_isOutsideTrack_4 rfl (lv_at hl 0 rfl) ?_
    refine lv_bipush (v := 40) hx hb dX4_isOutsideTrack_5 (by decide) ?_
    refine lv_icmp_le (tgt := 14) hx hb dX4_isOutsideTrack_7 (by decide) (fun c_7 => ?_) (fun c_7 => ?_)
    · refine lv_iconst (v := 0) hx hb dX4_isOutsideTrack_14 (by decide) ?_
      exact fw_zret hx hb hr (by decide) hlocks hK hP hD hS dX4_isOutsideTrack_15 ⟨(pif_f (by first | (simp [c_1, Int32.not_lt.mp c_1, c_7, Int32.not_lt.mpr c_7]; done) | ( clear hx hb hml hr hlocks hnm hts hown hK hP hD hA hS hl; grind))).symm, rfl⟩
    · refine lv_iconst (v := 1) hx hb dX4_isOutsideTrack_10 (by decide) ?_
      refine lv_goto (tgt := 15) hx hb dX4_isOutsideTrack_11 (by decide) ?_
      exact fw_zret hx hb hr (by decide) hlocks hK hP hD hS dX4_isOutsideTrack_15 ⟨(pif_t (by first | (simp [c_1, Int32.not_lt.mp c_1, c_7, Int32.not_le.mp c_7]; done) | ( clear hx hb hml hr hlocks hnm hts hown hK hP hD hA hS hl; grind))).symm, rfl⟩

set_option maxHeartbeats 4000000 in
set_option maxRecDepth 100000 in
theorem c_X4_isOf (l : Launch) (D : va_G) (kk : Nat → ClassId) (w : fw_W) (k a : Int32) : fw_Mi l yX4_isOf wsX4_isOf { frames := 0, cells := 0, slots := 0, locals := 0 } 0 0 D vwCl (xT kk) w [.int k, .int a] (fun r w1 => r = pif (isOf k a) 1 0 ∧ w1 = w) := by
  refine fw_ofi (cc := cX4_isOf) (maxL := 2) (ret := (some .boolean)) (by decide) rfl (Nat.le_of_ble_eq_true rfl) ?_
  intro p e s m args below meth c A ls hx hb hml hr hlocks hnm hts hown hK hP hD hA hS hl
  have hown : s.vm.findClass RX4 = some m.cls := hown
  have hl : lv_has ls 2 [(0, .int k), (1, .int a)] := hl
  refine lv_iload_n hx hb dX4_isOf_0 rfl (lv_at hl 1 rfl) ?_
  refine lv_if_eq (tgt := 29) hx hb dX4_isOf_1 (by decide) (fun c_1 => ?_) (fun c_1 => ?_)
  · refine lv_iconst (v := 1) hx hb dX4_isOf_29 (by decide) ?_
    refine lv_goto (tgt := 34) hx hb dX4_isOf_30 (by decide) ?_
    exact fw_zret hx hb hr (by decide) hlocks hK hP hD hS dX4_isOf_34 ⟨(pif_t (by first | (simp [isOf, eq_true c_1]; done) | (unfold isOf;  clear hx hb hml hr hlocks hnm hts hown hK hP hD hA hS hl; grind))).symm, rfl⟩
  · refine lv_iload_n hx hb dX4_isOf_4 rfl (lv_at hl 0 rfl) ?_
    refine lv_iload_n hx hb dX4_isOf_5 rfl (lv_at hl 1 rfl) ?_
    refine lv_icmp_eq (tgt := 29) hx hb dX4_isOf_6 (by decide) (fun c_6 => ?_) (fun c_6 => ?_)
    · refine lv_iconst (v := 1) hx hb dX4_isOf_29 (by decide) ?_
      refine lv_goto (tgt := 34) hx hb dX4_isOf_30 (by decide) ?_
      exact fw_zret hx hb hr (by decide) hlocks hK hP hD hS dX4_isOf_34 ⟨(pif_t (by first | (simp [isOf, c_1, eq_true c_6]; done) | (unfold isOf;  clear hx hb hml hr hlocks hnm hts hown hK hP hD hA hS hl; grind))).symm, rfl⟩
    · refine lv_iload_n hx hb dX4_isOf_9 rfl (lv_at hl 0 rfl) ?_
      refine lv_iconst (v := 2) hx hb dX4_isOf_10 (by decide) ?_
      refine lv_icmp_ne (tgt := 19) hx hb dX4_isOf_11 (by decide) (fun c_11 => ?_) (fun c_11 => ?_)
      · refine lv_iload_n hx hb dX4_isOf_19 rfl (lv_at hl 0 rfl) ?_
        refine lv_iconst (v := 4) hx hb dX4_isOf_20 (by decide) ?_
        refine lv_icmp_ne (tgt := 33) hx hb dX4_isOf_21 (by decide) (fun c_21 => ?_) (fun c_21 => ?_)
        · refine lv_iconst (v := 0) hx hb dX4_isOf_33 (by decide) ?_
          exact fw_zret hx hb hr (by decide) hlocks hK hP hD hS dX4_isOf_34 ⟨(pif_f (by first | (simp [isOf, c_1, c_6, c_11, c_21]; done) | (unfold isOf;  clear hx hb hml hr hlocks hnm hts hown hK hP hD hA hS hl; grind))).symm, rfl⟩
        · refine lv_iload_n hx hb dX4_isOf_24 rfl (lv_at hl 1 rfl) ?_
          refine lv_iconst (v := 3) hx hb dX4_isOf_25 (by decide) ?_
          refine lv_icmp_ne (tgt := 33) hx hb dX4_isOf_26 (by decide) (fun c_26 => ?_) (fun c_26 => ?_)
          · refine lv_iconst (v := 0) hx hb dX4_isOf_33 (by decide) ?_
            exact fw_zret hx hb hr (by decide) hlocks hK hP hD hS dX4_isOf_34 ⟨(pif_f (by first | (simp [isOf, c_1, c_6, c_11, eq_true c_21, c_26]; done) | (unfold isOf;  clear hx hb hml hr hlocks hnm hts hown hK hP hD hA hS hl; grind))).symm, rfl⟩
          · refine lv_iconst (v := 1) hx hb dX4_isOf_29 (by decide) ?_
            refine lv_goto (tgt := 34) hx hb dX4_isOf_30 (by decide) ?_
            exact fw_zret hx hb hr (by decide) hlocks hK hP hD hS dX4_isOf_34 ⟨(pif_t (by first | (simp [isOf, c_1, c_6, c_11, eq_true c_21, eq_true c_26]; done) | (unfold isOf;  clear hx hb hml hr hlocks hnm hts hown hK hP hD hA hS hl; grind))).symm, rfl⟩
      · refine lv_iload_n hx hb dX4_isOf_14 rfl (lv_at hl 1 rfl) ?_
        refine lv_iconst (v := 1) hx hb dX4_isOf_15 (by decide) ?_
        refine lv_icmp_eq (tgt := 29) hx hb dX4_isOf_16 (by decide) (fun c_16 => ?_) (fun c_16 => ?_)
        · refine lv_iconst (v := 1) hx hb dX4_isOf_29 (by decide) ?_
          refine lv_goto (tgt := 34) hx hb dX4_isOf_30 (by decide) ?_
          exact fw_zret hx hb hr (by decide) hlocks hK hP hD hS dX4_isOf_34 ⟨(pif_t (by first | (simp [isOf, c_1, c_6, eq_true c_11, eq_true c_16]; done) | (unfold isOf;  clear hx hb hml hr hlocks hnm hts hown hK hP hD hA hS hl; grind))).symm, rfl⟩
        · refine lv_iload_n hx hb dX4_isOf_19 rfl (lv_at hl 0 rfl) ?_
          refine lv_iconst (v := 4) hx hb dX4_isOf_20 (by decide) ?_
          refine lv_icmp_ne (tgt := 33) hx hb dX4_isOf_21 (by decide) (fun c_21 => ?_) (fun c_21 => ?_)
          · refine lv_iconst (v := 0) hx hb dX4_isOf_33 (by decide) ?_
            exact fw_zret hx hb hr (by decide) hlocks hK hP hD hS dX4_isOf_34 ⟨(pif_f (by first | (simp [isOf, c_1, c_6, eq_true c_11, c_16, c_21]; done) | (unfold isOf;  clear hx hb hml hr hlocks hnm hts hown hK hP hD hA hS hl; grind))).symm, rfl⟩
          · refine lv_iload_n hx hb dX4_isOf_24 rfl (lv_at hl 1 rfl) ?_
            refine lv_iconst (v := 3) hx hb dX4_isOf_25 (by decide) ?_
            refine lv_icmp_ne (tgt := 33) hx hb dX4_isOf_26 (by decide) (fun c_26 => ?_) (fun c_26 => ?_)
            · refine lv_iconst (v := 0) hx hb dX4_isOf_33 (by decide) ?_
              exact fw_zret hx hb hr (by decide) hlocks hK hP hD hS dX4_isOf_34 ⟨(pif_f (by first | (simp [isOf, c_1, c_6, eq_true c_11, c_16, eq_true c_21, c_26]; done) | (unfold isOf;  clear hx hb hml hr hlocks hnm hts hown hK hP hD hA hS hl; grind))).symm, rfl⟩
            · refine lv_iconst (v := 1) hx hb dX4_isOf_29 (by decide) ?_
              refine lv_goto (tgt := 34) hx hb dX4_isOf_30 (by decide) ?_
              exact fw_zret hx hb hr (by decide) hlocks hK hP hD hS dX4_isOf_34 ⟨(pif_t (by first | (simp [isOf, c_1, c_6, eq_true c_11, c_16, eq_true c_21, eq_true c_26]; done) | (unfold isOf;  clear hx hb hml hr hlocks hnm hts hown hK hP hD hA hS hl; grind))).symm, rfl⟩

set_option maxHeartbeats 4000000 in
set_option maxRecDepth 100000 in
theorem c_X4_tell (l : Launch) (D : va_G) (kk : Nat → ClassId) (ad : Nat → Nat → Nat) (n : Nat) (I : sI) (O : sO) (hj : sj (xV n) ad) (hI : xI n O) (f c0 : Int32) : fw_Mv l yX4_tell wsX4_tell { frames := 0, cells := 0, slots := 0, locals := 0 } 0 0 D vwCl (xT kk) (xw kk ad n I O) [.ref (ad 0 0), .int f, .int c0] (fun w1 => w1 = xw kk ad n (tl I f c0) O) := by
  refine fw_ofv (cc := cX4_tell) (maxL := 3) (ret := none) (by decide) rfl (Nat.le_of_ble_eq_true rfl) ?_
  intro p e s m args below meth c A ls hx hb hml hr hlocks hnm hts hown hK hP hD hA hS hl
  have hown : s.vm.findClass RX4 = some m.cls := hown
  have hl : lv_has ls 3 [(0, .ref (ad 0 0)), (1, .int f), (2, .int c0)] := hl
  have in4 : ∀ w ∈ u_ws RX4 TX4 8, w ∈ wsX4_tell := by decide +kernel
  refine lv_aload_n hx hb dX4_tell_0 rfl (lv_at hl 0 rfl) ?_
  refine lv_iload_n hx hb dX4_tell_1 rfl (lv_at hl 1 rfl) ?_
  refine fw_put (v := .int f) (ty := .int) (C := RX4) (T := TX4) (N := 8) hx hb hts in4 tyX4 tyX4_ok nmX4 hown hK hP hD hS (x_at0 hj) rfl 5 (by decide) (hts (.fieldLink RX4 149 "WagonSidings" "toldFailure" "I") (by decide +kernel)) (fun _ h9 => h9) rfl (by decide +kernel) rfl rfl (Nat.le_of_ble_eq_true rfl) dX4_tell_2 (x_put0_5 hj) (fun H locs hP hD hS => ?_)
  refine lv_aload_n hx hb dX4_tell_5 rfl (lv_at hl 0 rfl) ?_
  refine lv_iload_n hx hb dX4_tell_6 rfl (lv_at hl 2 rfl) ?_
  refine fw_put (v := .int c0) (ty := .int) (C := RX4) (T := TX4) (N := 8) hx hb hts in4 tyX4 tyX4_ok nmX4 hown hK hP hD hS (x_at0 hj) rfl 6 (by decide) (hts (.fieldLink RX4 152 "WagonSidings" "toldCount" "I") (by decide +kernel)) (fun _ h9 => h9) rfl (by decide +kernel) rfl rfl (Nat.le_of_ble_eq_true rfl) dX4_tell_7 (x_put0_6 hj) (fun H locs hP hD hS => ?_)
  refine lv_aload_n hx hb dX4_tell_10 rfl (lv_at hl 0 rfl) ?_
  refine lv_iconst (v := 0) hx hb dX4_tell_11 (by decide) ?_
  refine fw_put (v := .int 0) (ty := .int) (C := RX4) (T := TX4) (N := 8) hx hb hts in4 tyX4 tyX4_ok nmX4 hown hK hP hD hS (x_at0 hj) rfl 7 (by decide) (hts (.fieldLink RX4 146 "WagonSidings" "toldSignal" "I") (by decide +kernel)) (fun _ h9 => h9) rfl (by decide +kernel) rfl rfl (Nat.le_of_ble_eq_true rfl) dX4_tell_12 (x_put0_7 hj) (fun H locs hP hD hS => ?_)
  exact fw_vret hx hb hr hlocks hK hP hD hS dX4_tell_15 rfl

set_option maxHeartbeats 4000000 in
set_option maxRecDepth 100000 in
theorem c_X4_succeed (l : Launch) (D : va_G) (kk : Nat → ClassId) (ad : Nat → Nat → Nat) (n : Nat) (I : sI) (O : sO) (hj : sj (xV n) ad) (hI : xI n O) (c0 v : Int32) : fw_Mi l yX4_succeed wsX4_succeed { frames := 1, cells := 0, slots := 0, locals := 22 } 0 0 D vwCl (xT kk) (xw kk ad n I O) [.ref (ad 0 0), .int c0, .int v] (fun r w1 => r = v ∧ w1 = xw kk ad n (tl I 0 c0) O) := by
  refine fw_ofi (cc := cX4_succeed) (maxL := 3) (ret := (some .int)) (by decide) rfl (Nat.le_of_ble_eq_true rfl) ?_
  intro p e s m args below meth c A ls hx hb hml hr hlocks hnm hts hown hK hP hD hA hS hl
  have hown : s.vm.findClass RX4 = some m.cls := hown
  have hl : lv_has ls 3 [(0, .ref (ad 0 0)), (1, .int c0), (2, .int v)] := hl
  refine lv_aload_n hx hb dX4_succeed_0 rfl (lv_at hl 0 rfl) ?_
  refine lv_iconst (v := 0) hx hb dX4_succeed_1 (by decide) ?_
  refine lv_iload_n hx hb dX4_succeed_2 rfl (lv_at hl 1 rfl) ?_
  refine fw_callv (va_runV (As := [.int 0, .int c0]) (rest := []) ⟨hx, hb, hml, hown, hts⟩ (c_X4_tell l D kk ad n I O hj hI 0 c0 _) (cwV 2 hts gX4_succeed_X4_tell rfl rfl rfl (by decide +kernel) ⟨Nat.le_of_ble_eq_true rfl, Nat.le_of_ble_eq_true rfl⟩) (fw_preV hK hP (ci := 4) rfl (x_at0 hj)) rfl rfl hl.1 rfl (lv_room (Nat.le_of_ble_eq_true rfl)) dX4_succeed_3 ⟨Nat.le_of_ble_eq_true rfl, Nat.le_of_ble_eq_true rfl⟩) hD hS hA (fun w1 H locs hq hP hD hS => ?_)
  subst hq
  refine lv_iload_n hx hb dX4_succeed_6 rfl (lv_at hl 2 rfl) ?_
  exact fw_iret hx hb hr hlocks hK hP hD hS dX4_succeed_7 ⟨rfl, rfl⟩

set_option maxHeartbeats 4000000 in
set_option maxRecDepth 100000 in
theorem c_X4_fail (l : Launch) (D : va_G) (kk : Nat → ClassId) (ad : Nat → Nat → Nat) (n : Nat) (I : sI) (O : sO) (hj : sj (xV n) ad) (hI : xI n O) (f c0 : Int32) : fw_Mi l yX4_fail wsX4_fail { frames := 1, cells := 0, slots := 0, locals := 22 } 0 0 D vwCl (xT kk) (xw kk ad n I O) [.ref (ad 0 0), .int f, .int c0] (fun r w1 => r = -200 - f ∧ w1 = xw kk ad n (tl I f c0) O) := by
  refine fw_ofi (cc := cX4_fail) (maxL := 3) (ret := (some .int)) (by decide) rfl (Nat.le_of_ble_eq_true rfl) ?_
  intro p e s m args below meth c A ls hx hb hml hr hlocks hnm hts hown hK hP hD hA hS hl
  have hown : s.vm.findClass RX4 = some m.cls := hown
  have hl : lv_has ls 3 [(0, .ref (ad 0 0)), (1, .int f), (2, .int c0)] := hl
  refine lv_aload_n hx hb dX4_fail_0 rfl (lv_at hl 0 rfl) ?_
  refine lv_iload_n hx hb dX4_fail_1 rfl (lv_at hl 1 rfl) ?_
  refine lv_iload_n hx hb dX4_fail_2 rfl (lv_at hl 2 rfl) ?_
  refine fw_callv (va_runV (As := [.int f, .int c0]) (rest := []) ⟨hx, hb, hml, hown, hts⟩ (c_X4_tell l D kk ad n I O hj hI f c0 _) (cwV 2 hts gX4_fail_X4_tell rfl rfl rfl (by decide +kernel) ⟨Nat.le_of_ble_eq_true rfl, Nat.le_of_ble_eq_true rfl⟩) (fw_preV hK hP (ci := 4) rfl (x_at0 hj)) rfl rfl hl.1 rfl (lv_room (Nat.le_of_ble_eq_true rfl)) dX4_fail_3 ⟨Nat.le_of_ble_eq_true rfl, Nat.le_of_ble_eq_true rfl⟩) hD hS hA (fun w1 H locs hq hP hD hS => ?_)
  subst hq
  refine lv_sipush (v := (-200)) hx hb dX4_fail_6 (by decide) ?_
  refine lv_iload_n hx hb dX4_fail_9 rfl (lv_at hl 1 rfl) ?_
  refine lv_isub hx hb dX4_fail_10 ?_
  exact fw_iret hx hb hr hlocks hK hP hD hS dX4_fail_11 ⟨rfl, rfl⟩

set_option maxHeartbeats 4000000 in
set_option maxRecDepth 100000 in
theorem c_X4_findWagon (l : Launch) (D : va_G) (kk : Nat → ClassId) (ad : Nat → Nat → Nat) (n : Nat) (I : sI) (O : sO) (hj : sj (xV n) ad) (hI : xI n O) (a : Int32) : fw_Mq l yX4_findWagon wsX4_findWagon { frames := 0, cells := 0, slots := 0, locals := 0 } 0 0 D vwCl (xT kk) (xw kk ad n I O) [.ref (ad 0 0), .int a] (fun r w1 => r = (fnd n a).map (ad 5) ∧ w1 = xw kk ad n I O) := by
  refine fw_ofq (cc := cX4_findWagon) (maxL := 2) (ret := (some (.object "WagonSidings$Wagon"))) (by decide) rfl (Nat.le_of_ble_eq_true rfl) ?_
  intro p e s m args below meth c A ls hx hb hml hr hlocks hnm hts hown hK hP hD hA hS hl
  have hown : s.vm.findClass RX4 = some m.cls := hown
  have hl : lv_has ls 2 [(0, .ref (ad 0 0)), (1, .int a)] := hl
  have in4 : ∀ w ∈ u_ws RX4 TX4 8, w ∈ wsX4_findWagon := by decide +kernel
  refine lv_iload_n hx hb dX4_findWagon_0 rfl (lv_at hl 1 rfl) ?_
  refine lv_if_lt (tgt := 22) hx hb dX4_findWagon_1 (by decide) (fun c_1 => ?_) (fun c_1 => ?_)
  · refine lv_null hx hb dX4_findWagon_22 ?_
    exact fw_aret (r := none) hx hb hr hlocks hK hP hD hS dX4_findWagon_23 ⟨by rw [fnd_neg c_1]; rfl, rfl⟩
  · refine lv_iload_n hx hb dX4_findWagon_4 rfl (lv_at hl 1 rfl) ?_
    refine lv_aload_n hx hb dX4_findWagon_5 rfl (lv_at hl 0 rfl) ?_
    refine fw_get (v := .ref (ad 1 0)) (C := RX4) (T := TX4) (N := 8) hx hb hts in4 hown hK hP (x_at0 hj) rfl 0 (by decide) (hts (.fieldLink RX4 11 "WagonSidings" "wagons" "[LWagonSidings$Wagon;") (by decide +kernel)) (fun _ h9 => h9) rfl dX4_findWagon_6 ?_
    refine fw_alen (v := nI 40) hx hb hK hP 1 (x_at1 hj) rfl rfl dX4_findWagon_9 ?_
    refine lv_icmp_ge (tgt := 22) hx hb dX4_findWagon_10 (by decide) (fun c_10 => ?_) (fun c_10 => ?_)
    · refine lv_null hx hb dX4_findWagon_22 ?_
      exact fw_aret (r := none) hx hb hr hlocks hK hP hD hS dX4_findWagon_23 ⟨by rw [fnd_big (N := 40) (by decide) hI.1 c_10]; rfl, rfl⟩
    · refine lv_aload_n hx hb dX4_findWagon_13 rfl (lv_at hl 0 rfl) ?_
      refine fw_get (v := .ref (ad 1 0)) (C := RX4) (T := TX4) (N := 8) hx hb hts in4 hown hK hP (x_at0 hj) rfl 0 (by decide) (hts (.fieldLink RX4 11 "WagonSidings" "wagons" "[LWagonSidings$Wagon;") (by decide +kernel)) (fun _ h9 => h9) rfl dX4_findWagon_14 ?_
      refine lv_iload_n hx hb dX4_findWagon_17 rfl (lv_at hl 1 rfl) ?_
      have hin := fnd_in (n := n) (N := 40) (by decide) c_1 c_10
      refine fw_aldq hx hb hK hP 1 (x_at1 hj) rfl hin.1 dX4_findWagon_18 ?_
      refine lv_goto (tgt := 23) hx hb dX4_findWagon_19 (by decide) ?_
      exact fw_aret (r := (if a.toNatClampNeg < n then some (ad 5 a.toNatClampNeg) else none)) hx hb hr hlocks hK hP hD hS dX4_findWagon_23 ⟨by rw [hin.2]; split <;> rfl, rfl⟩

set_option maxHeartbeats 4000000 in
set_option maxRecDepth 100000 in
theorem c_X4_findTrack (l : Launch) (D : va_G) (kk : Nat → ClassId) (ad : Nat → Nat → Nat) (n : Nat) (I : sI) (O : sO) (hj : sj (xV n) ad) (hI : xI n O) (a : Int32) : fw_Mq l yX4_findTrack wsX4_findTrack { frames := 0, cells := 0, slots := 0, locals := 0 } 0 0 D vwCl (xT kk) (xw kk ad n I O) [.ref (ad 0 0), .int a] (fun r w1 => r = (fnd 6 a).map (ad 6) ∧ w1 = xw kk ad n I O) := by
  refine fw_ofq (cc := cX4_findTrack) (maxL := 2) (ret := (some (.object "WagonSidings$Track"))) (by decide) rfl (Nat.le_of_ble_eq_true rfl) ?_
  intro p e s m args below meth c A ls hx hb hml hr hlocks hnm hts hown hK hP hD hA hS hl
  have hown : s.vm.findClass RX4 = some m.cls := hown
  have hl : lv_has ls 2 [(0, .ref (ad 0 0)), (1, .int a)] := hl
  have in4 : ∀ w ∈ u_ws RX4 TX4 8, w ∈ wsX4_findTrack := by decide +kernel
  refine lv_iload_n hx hb dX4_findTrack_0 rfl (lv_at hl 1 rfl) ?_
  refine lv_if_lt (tgt := 22) hx hb dX4_findTrack_1 (by decide) (fun c_1 => ?_) (fun c_1 => ?_)
  · refine lv_null hx hb dX4_findTrack_22 ?_
    exact fw_aret (r := none) hx hb hr hlocks hK hP hD hS dX4_findTrack_23 ⟨by rw [fnd_neg c_1]; rfl, rfl⟩
  · refine lv_iload_n hx hb dX4_findTrack_4 rfl (lv_at hl 1 rfl) ?_
    refine lv_aload_n hx hb dX4_findTrack_5 rfl (lv_at hl 0 rfl) ?_
    refine fw_get (v := .ref (ad 2 0)) (C := RX4) (T := TX4) (N := 8) hx hb hts in4 hown hK hP (x_at0 hj) rfl 2 (by decide) (hts (.fieldLink RX4 17 "WagonSidings" "tracks" "[LWagonSidings$Track;") (by decide +kernel)) (fun _ h9 => h9) rfl dX4_findTrack_6 ?_
    refine fw_alen (v := nI 6) hx hb hK hP 2 (x_at2 hj) rfl rfl dX4_findTrack_9 ?_
    refine lv_icmp_ge (tgt := 22) hx hb dX4_findTrack_10 (by decide) (fun c_10 => ?_) (fun c_10 => ?_)
    · refine lv_null hx hb dX4_findTrack_22 ?_
      exact fw_aret (r := none) hx hb hr hlocks hK hP hD hS dX4_findTrack_23 ⟨by rw [fnd_big (N := 6) (by decide) (Nat.le_refl _) c_10]; rfl, rfl⟩
    · refine lv_aload_n hx hb dX4_findTrack_13 rfl (lv_at hl 0 rfl) ?_
      refine fw_get (v := .ref (ad 2 0)) (C := RX4) (T := TX4) (N := 8) hx hb hts in4 hown hK hP (x_at0 hj) rfl 2 (by decide) (hts (.fieldLink RX4 17 "WagonSidings" "tracks" "[LWagonSidings$Track;") (by decide +kernel)) (fun _ h9 => h9) rfl dX4_findTrack_14 ?_
      refine lv_iload_n hx hb dX4_findTrack_17 rfl (lv_at hl 1 rfl) ?_
      have hin := fnd_in (n := 6) (N := 6) (by decide) c_1 c_10
      refine fw_aldq hx hb hK hP 2 (x_at2 hj) rfl hin.1 dX4_findTrack_18 ?_
      refine lv_goto (tgt := 23) hx hb dX4_findTrack_19 (by decide) ?_
      exact fw_aret (r := (if a.toNatClampNeg < 6 then some (ad 6 a.toNatClampNeg) else none)) hx hb hr hlocks hK hP hD hS dX4_findTrack_23 ⟨by rw [hin.2]; split <;> rfl, rfl⟩

set_option maxHeartbeats 4000000 in
set_option maxRecDepth 100000 in
theorem c_X4_findRake (l : Launch) (D : va_G) (kk : Nat → ClassId) (ad : Nat → Nat → Nat) (n : Nat) (I : sI) (O : sO) (hj : sj (xV n) ad) (hI : xI n O) (a : Int32) : fw_Mq l yX4_findRake wsX4_findRake { frames := 0, cells := 0, slots := 0, locals := 0 } 0 0 D vwCl (xT kk) (xw kk ad n I O) [.ref (ad 0 0), .int a] (fun r w1 => r = (fnd 4 a).map (ad 7) ∧ w1 = xw kk ad n I O) := by
  refine fw_ofq (cc := cX4_findRake) (maxL := 2) (ret := (some (.object "WagonSidings$Rake"))) (by decide) rfl (Nat.le_of_ble_eq_true rfl) ?_
  intro p e s m args below meth c A ls hx hb hml hr hlocks hnm hts hown hK hP hD hA hS hl
  have hown : s.vm.findClass RX4 = some m.cls := hown
  have hl : lv_has ls 2 [(0, .ref (ad 0 0)), (1, .int a)] := hl
  have in4 : ∀ w ∈ u_ws RX4 TX4 8, w ∈ wsX4_findRake := by decide +kernel
  refine lv_iload_n hx hb dX4_findRake_0 rfl (lv_at hl 1 rfl) ?_
  refine lv_if_lt (tgt := 22) hx hb dX4_findRake_1 (by decide) (fun c_1 => ?_) (fun c_1 => ?_)
  · refine lv_null hx hb dX4_findRake_22 ?_
    exact fw_aret (r := none) hx hb hr hlocks hK hP hD hS dX4_findRake_23 ⟨by rw [fnd_neg c_1]; rfl, rfl⟩
  · refine lv_iload_n hx hb dX4_findRake_4 rfl (lv_at hl 1 rfl) ?_
    refine lv_aload_n hx hb dX4_findRake_5 rfl (lv_at hl 0 rfl) ?_
    refine fw_get (v := .ref (ad 3 0)) (C := RX4) (T := TX4) (N := 8) hx hb hts in4 hown hK hP (x_at0 hj) rfl 3 (by decide) (hts (.fieldLink RX4 23 "WagonSidings" "rakes" "[LWagonSidings$Rake;") (by decide +kernel)) (fun _ h9 => h9) rfl dX4_findRake_6 ?_
    refine fw_alen (v := nI 4) hx hb hK hP 3 (x_at3 hj) rfl rfl dX4_findRake_9 ?_
    refine lv_icmp_ge (tgt := 22) hx hb dX4_findRake_10 (by decide) (fun c_10 => ?_) (fun c_10 => ?_)
    · refine lv_null hx hb dX4_findRake_22 ?_
      exact fw_aret (r := none) hx hb hr hlocks hK hP hD hS dX4_findRake_23 ⟨by rw [fnd_big (N := 4) (by decide) (Nat.le_refl _) c_10]; rfl, rfl⟩
    · refine lv_aload_n hx hb dX4_findRake_13 rfl (lv_at hl 0 rfl) ?_
      refine fw_get (v := .ref (ad 3 0)) (C := RX4) (T := TX4) (N := 8) hx hb hts in4 hown hK hP (x_at0 hj) rfl 3 (by decide) (hts (.fieldLink RX4 23 "WagonSidings" "rakes" "[LWagonSidings$Rake;") (by decide +kernel)) (fun _ h9 => h9) rfl dX4_findRake_14 ?_
      refine lv_iload_n hx hb dX4_findRake_17 rfl (lv_at hl 1 rfl) ?_
      have hin := fnd_in (n := 4) (N := 4) (by decide) c_1 c_10
      refine fw_aldq hx hb hK hP 3 (x_at3 hj) rfl hin.1 dX4_findRake_18 ?_
      refine lv_goto (tgt := 23) hx hb dX4_findRake_19 (by decide) ?_
      exact fw_aret (r := (if a.toNatClampNeg < 4 then some (ad 7 a.toNatClampNeg) else none)) hx hb hr hlocks hK hP hD hS dX4_findRake_23 ⟨by rw [hin.2]; split <;> rfl, rfl⟩

set_option maxHeartbeats 4000000 in
set_option maxRecDepth 100000 in
theorem c_X4_findTable (l : Launch) (D : va_G) (kk : Nat → ClassId) (ad : Nat → Nat → Nat) (n : Nat) (I : sI) (O : sO) (hj : sj (xV n) ad) (hI : xI n O) (a : Int32) : fw_Mq l yX4_findTable wsX4_findTable { frames := 0, cells := 0, slots := 0, locals := 0 } 0 0 D vwCl (xT kk) (xw kk ad n I O) [.ref (ad 0 0), .int a] (fun r w1 => r = (fnd 2 a).map (ad 9) ∧ w1 = xw kk ad n I O) := by
  refine fw_ofq (cc := cX4_findTable) (maxL := 2) (ret := (some (.object "WagonSidings$Table"))) (by decide) rfl (Nat.le_of_ble_eq_true rfl) ?_
  intro p e s m args below meth c A ls hx hb hml hr hlocks hnm hts hown hK hP hD hA hS hl
  have hown : s.vm.findClass RX4 = some m.cls := hown
  have hl : lv_has ls 2 [(0, .ref (ad 0 0)), (1, .int a)] := hl
  have in4 : ∀ w ∈ u_ws RX4 TX4 8, w ∈ wsX4_findTable := by decide +kernel
  refine lv_iload_n hx hb dX4_findTable_0 rfl (lv_at hl 1 rfl) ?_
  refine lv_if_lt (tgt := 22) hx hb dX4_findTable_1 (by decide) (fun c_1 => ?_) (fun c_1 => ?_)
  · refine lv_null hx hb dX4_findTable_22 ?_
    exact fw_aret (r := none) hx hb hr hlocks hK hP hD hS dX4_findTable_23 ⟨by rw [fnd_neg c_1]; rfl, rfl⟩
  · refine lv_iload_n hx hb dX4_findTable_4 rfl (lv_at hl 1 rfl) ?_
    refine lv_aload_n hx hb dX4_findTable_5 rfl (lv_at hl 0 rfl) ?_
    refine fw_get (v := .ref (ad 4 0)) (C := RX4) (T := TX4) (N := 8) hx hb hts in4 hown hK hP (x_at0 hj) rfl 4 (by decide) (hts (.fieldLink RX4 29 "WagonSidings" "tables" "[LWagonSidings$Table;") (by decide +kernel)) (fun _ h9 => h9) rfl dX4_findTable_6 ?_
    refine fw_alen (v := nI 2) hx hb hK hP 4 (x_at4 hj) rfl rfl dX4_findTable_9 ?_
    refine lv_icmp_ge (tgt := 22) hx hb dX4_findTable_10 (by decide) (fun c_10 => ?_) (fun c_10 => ?_)
    · refine lv_null hx hb dX4_findTable_22 ?_
      exact fw_aret (r := none) hx hb hr hlocks hK hP hD hS dX4_findTable_23 ⟨by rw [fnd_big (N := 2) (by decide) (Nat.le_refl _) c_10]; rfl, rfl⟩
    · refine lv_aload_n hx hb dX4_findTable_13 rfl (lv_at hl 0 rfl) ?_
      refine fw_get (v := .ref (ad 4 0)) (C := RX4) (T := TX4) (N := 8) hx hb hts in4 hown hK hP (x_at0 hj) rfl 4 (by decide) (hts (.fieldLink RX4 29 "WagonSidings" "tables" "[LWagonSidings$Table;") (by decide +kernel)) (fun _ h9 => h9) rfl dX4_findTable_14 ?_
      refine lv_iload_n hx hb dX4_findTable_17 rfl (lv_at hl 1 rfl) ?_
      have hin := fnd_in (n := 2) (N := 2) (by decide) c_1 c_10
      refine fw_aldq hx hb hK hP 4 (x_at4 hj) rfl hin.1 dX4_findTable_18 ?_
      refine lv_goto (tgt := 23) hx hb dX4_findTable_19 (by decide) ?_
      exact fw_aret (r := (if a.toNatClampNeg < 2 then some (ad 9 a.toNatClampNeg) else none)) hx hb hr hlocks hK hP hD hS dX4_findTable_23 ⟨by rw [hin.2]; split <;> rfl, rfl⟩

set_option maxHeartbeats 4000000 in
set_option maxRecDepth 100000 in
theorem c_X4_numberOfN (l : Launch) (D : va_G) (kk : Nat → ClassId) (w : fw_W) : fw_Mi l yX4_numberOf wsX4_numberOf { frames := 0, cells := 0, slots := 0, locals := 0 } 0 0 D vwCl (xT kk) w [.null] (fun r w1 => r = -1 ∧ w1 = w) := by
  refine fw_ofi (cc := cX4_numberOf) (maxL := 1) (ret := (some .int)) (by decide) rfl (Nat.le_of_ble_eq_true rfl) ?_
  intro p e s m args below meth c A ls hx hb hml hr hlocks hnm hts hown hK hP hD hA hS hl
  have hown : s.vm.findClass RX4 = some m.cls := hown
  have hl : lv_has ls 1 [(0, .null)] := hl
  refine lv_aload_nN hx hb dX4_numberOf_0 rfl (lv_at hl 0 rfl) ?_
  refine lv_ifnonnullN hx hb dX4_numberOf_1 ?_
  refine lv_iconst (v := (-1)) hx hb dX4_numberOf_4 (by decide) ?_
  refine lv_goto (tgt := 12) hx hb dX4_numberOf_5 (by decide) ?_
  exact fw_iret hx hb hr hlocks hK hP hD hS dX4_numberOf_12 ⟨rfl, rfl⟩

set_option maxHeartbeats 4000000 in
set_option maxRecDepth 100000 in
theorem c_X4_numberOf (l : Launch) (D : va_G) (kk : Nat → ClassId) (ad : Nat → Nat → Nat) (n : Nat) (I : sI) (O : sO) (hj : sj (xV n) ad) {i : Nat} (hi : i < n) : fw_Mi l yX4_numberOf wsX4_numberOf { frames := 0, cells := 0, slots := 0, locals := 0 } 0 0 D vwCl (xT kk) (xw kk ad n I O) [.ref (ad 5 i)] (fun r w1 => r = nI i ∧ w1 = xw kk ad n I O) := by
  refine fw_ofi (cc := cX4_numberOf) (maxL := 1) (ret := (some .int)) (by decide) rfl (Nat.le_of_ble_eq_true rfl) ?_
  intro p e s m args below meth c A ls hx hb hml hr hlocks hnm hts hown hK hP hD hA hS hl
  have hown : s.vm.findClass RX4 = some m.cls := hown
  have hl : lv_has ls 1 [(0, .ref (ad 5 i))] := hl
  have in3 : ∀ w ∈ u_ws RX3 TX3 6, w ∈ wsX4_numberOf := by decide +kernel
  refine lv_aload_n hx hb dX4_numberOf_0 rfl (lv_at hl 0 rfl) ?_
  refine lv_ifnonnull (tgt := 8) hx hb dX4_numberOf_1 (by decide) ?_
  refine lv_aload_n hx hb dX4_numberOf_8 rfl (lv_at hl 0 rfl) ?_
  refine fw_get (v := .int (nI i)) (C := RX3) (T := TX3) (N := 6) hx hb hts in3 hown hK hP (x_at5 hj hi) rfl 0 (by decide) (hts (.fieldLink RX4 88 "WagonSidings$Wagon" "number" "I") (by decide +kernel)) (fun _ h9 => h9) rfl dX4_numberOf_9 ?_
  exact fw_iret hx hb hr hlocks hK hP hD hS dX4_numberOf_12 ⟨rfl, rfl⟩

set_option maxHeartbeats 4000000 in
set_option maxRecDepth 100000 in
theorem c_X4_hootOf (l : Launch) (D : va_G) (kk : Nat → ClassId) (ad : Nat → Nat → Nat) (n : Nat) (I : sI) (O : sO) (hj : sj (xV n) ad) (hI : xI n O) {i : Nat} (hi : i < n) : fw_Mi l yX4_hootOf wsX4_hootOf { frames := 0, cells := 0, slots := 0, locals := 0 } 0 0 D vwCl (xT kk) (xw kk ad n I O) [.ref (ad 5 i)] (fun r w1 => r = hoot (I 0 i) (I 1 i) ∧ w1 = xw kk ad n I O) := by
  refine fw_ofi (cc := cX4_hootOf) (maxL := 1) (ret := (some .int)) (by decide) rfl (Nat.le_of_ble_eq_true rfl) ?_
  intro p e s m args below meth c A ls hx hb hml hr hlocks hnm hts hown hK hP hD hA hS hl
  have hown : s.vm.findClass RX4 = some m.cls := hown
  have hl : lv_has ls 1 [(0, .ref (ad 5 i))] := hl
  have in3 : ∀ w ∈ u_ws RX3 TX3 6, w ∈ wsX4_hootOf := by decide +kernel
  refine lv_aload_n hx hb dX4_hootOf_0 rfl (lv_at hl 0 rfl) ?_
  refine fw_get (v := .int (I 0 i)) (C := RX3) (T := TX3) (N := 6) hx hb hts in3 hown hK hP (x_at5 hj hi) rfl 1 (by decide) (hts (.fieldLink RX4 97 "WagonSidings$Wagon" "kind" "I") (by decide +kernel)) (fun _ h9 => h9) rfl dX4_hootOf_1 ?_
  by_cases k_4_1 : I 0 i = 1
  · refine lv_tableIn (tgt := 36) hx hb dX4_hootOf_4 (by rw [k_4_1]; decide) (by rw [k_4_1]; decide) (by rw [k_4_1]; rfl) (by decide) ?_
    refine lv_aload_n hx hb dX4_hootOf_36 rfl (lv_at hl 0 rfl) ?_
    refine fw_get (v := .int (I 1 i)) (C := RX3) (T := TX3) (N := 6) hx hb hts in3 hown hK hP (x_at5 hj hi) rfl 2 (by decide) (hts (.fieldLink RX4 91 "WagonSidings$Wagon" "cargo" "I") (by decide +kernel)) (fun _ h9 => h9) rfl dX4_hootOf_37 ?_
    refine lv_iconst (v := 1) hx hb dX4_hootOf_40 (by decide) ?_
    refine lv_iadd hx hb dX4_hootOf_41 ?_
    exact fw_iret hx hb hr hlocks hK hP hD hS dX4_hootOf_42 ⟨by simp [hoot, eq_true k_4_1], rfl⟩
  by_cases k_4_2 : I 0 i = 2
  · refine lv_tableIn (tgt := 36) hx hb dX4_hootOf_4 (by rw [k_4_2]; decide) (by rw [k_4_2]; decide) (by rw [k_4_2]; rfl) (by decide) ?_
    refine lv_aload_n hx hb dX4_hootOf_36 rfl (lv_at hl 0 rfl) ?_
    refine fw_get (v := .int (I 1 i)) (C := RX3) (T := TX3) (N := 6) hx hb hts in3 hown hK hP (x_at5 hj hi) rfl 2 (by decide) (hts (.fieldLink RX4 91 "WagonSidings$Wagon" "cargo" "I") (by decide +kernel)) (fun _ h9 => h9) rfl dX4_hootOf_37 ?_
    refine lv_iconst (v := 1) hx hb dX4_hootOf_40 (by decide) ?_
    refine lv_iadd hx hb dX4_hootOf_41 ?_
    exact fw_iret hx hb hr hlocks hK hP hD hS dX4_hootOf_42 ⟨by simp [hoot, k_4_1, eq_true k_4_2], rfl⟩
  by_cases k_4_3 : I 0 i = 3
  · refine lv_tableIn (tgt := 43) hx hb dX4_hootOf_4 (by rw [k_4_3]; decide) (by rw [k_4_3]; decide) (by rw [k_4_3]; rfl) (by decide) ?_
    refine lv_bipush (v := 10) hx hb dX4_hootOf_43 (by decide) ?_
    refine lv_aload_n hx hb dX4_hootOf_45 rfl (lv_at hl 0 rfl) ?_
    refine fw_get (v := .int (I 1 i)) (C := RX3) (T := TX3) (N := 6) hx hb hts in3 hown hK hP (x_at5 hj hi) rfl 2 (by decide) (hts (.fieldLink RX4 91 "WagonSidings$Wagon" "cargo" "I") (by decide +kernel)) (fun _ h9 => h9) rfl dX4_hootOf_46 ?_
    refine lv_imul hx hb dX4_hootOf_49 ?_
    exact fw_iret hx hb hr hlocks hK hP hD hS dX4_hootOf_50 ⟨by simp [hoot, k_4_1, k_4_2, eq_true k_4_3], rfl⟩
  by_cases k_4_4 : I 0 i = 4
  · refine lv_tableIn (tgt := 51) hx hb dX4_hootOf_4 (by rw [k_4_4]; decide) (by rw [k_4_4]; decide) (by rw [k_4_4]; rfl) (by decide) ?_
    refine lv_bipush (v := 10) hx hb dX4_hootOf_51 (by decide) ?_
    refine lv_aload_n hx hb dX4_hootOf_53 rfl (lv_at hl 0 rfl) ?_
    refine fw_get (v := .int (I 1 i)) (C := RX3) (T := TX3) (N := 6) hx hb hts in3 hown hK hP (x_at5 hj hi) rfl 2 (by decide) (hts (.fieldLink RX4 91 "WagonSidings$Wagon" "cargo" "I") (by decide +kernel)) (fun _ h9 => h9) rfl dX4_hootOf_54 ?_
    refine lv_imul hx hb dX4_hootOf_57 ?_
    refine lv_iconst (v := 1) hx hb dX4_hootOf_58 (by decide) ?_
    refine lv_isub hx hb dX4_hootOf_59 ?_
    exact fw_iret hx hb hr hlocks hK hP hD hS dX4_hootOf_60 ⟨by simp [hoot, k_4_1, k_4_2, k_4_3, eq_true k_4_4], rfl⟩
  refine lv_tableOut (tgt := 61) hx hb dX4_hootOf_4 (by have z0 := lv_neT (a := 1) k_4_1 (by decide); have z1 := lv_neT (a := 2) k_4_2 (by decide); have z2 := lv_neT (a := 3) k_4_3 (by decide); have z3 := lv_neT (a := 4) k_4_4 (by decide); omega) (by decide) ?_
  refine lv_aload_n hx hb dX4_hootOf_61 rfl (lv_at hl 0 rfl) ?_
  refine fw_get (v := .int (I 1 i)) (C := RX3) (T := TX3) (N := 6) hx hb hts in3 hown hK hP (x_at5 hj hi) rfl 2 (by decide) (hts (.fieldLink RX4 91 "WagonSidings$Wagon" "cargo" "I") (by decide +kernel)) (fun _ h9 => h9) rfl dX4_hootOf_62 ?_
  exact fw_iret hx hb hr hlocks hK hP hD hS dX4_hootOf_65 ⟨by simp [hoot, k_4_1, k_4_2, k_4_3, k_4_4], rfl⟩

set_option maxHeartbeats 4000000 in
set_option maxRecDepth 100000 in
theorem c_X0_hasPlace (l : Launch) (D : va_G) (kk : Nat → ClassId) (ad : Nat → Nat → Nat) (n : Nat) (I : sI) (O : sO) (hj : sj (xV n) ad) (hI : xI n O) {r0 : Nat} (hr0 : r0 < 4) (a : Int32) : fw_Mi l yX0_hasPlace wsX0_hasPlace { frames := 0, cells := 0, slots := 0, locals := 0 } 0 0 D vwCl (xT kk) (xw kk ad n I O) [.ref (ad 7 r0), .int a] (fun r w1 => r = pif (rkP I r0 a) 1 0 ∧ w1 = xw kk ad n I O) := by
  refine fw_ofi (cc := cX0_hasPlace) (maxL := 2) (ret := (some .boolean)) (by decide) rfl (Nat.le_of_ble_eq_true rfl) ?_
  intro p e s m args below meth c A ls hx hb hml hr hlocks hnm hts hown hK hP hD hA hS hl
  have hown : s.vm.findClass RX0 = some m.cls := hown
  have hl : lv_has ls 2 [(0, .ref (ad 7 r0)), (1, .int a)] := hl
  have in0 : ∀ w ∈ u_ws RX0 TX0 4, w ∈ wsX0_hasPlace := by decide +kernel
  refine lv_aload_n hx hb dX0_hasPlace_0 rfl (lv_at hl 0 rfl) ?_
  refine fw_get (v := .int (I 5 r0)) (C := RX0) (T := TX0) (N := 4) hx hb hts in0 hown hK hP (x_at7 hj hr0) rfl 0 (by decide) (hts (.fieldLink RX0 17 "WagonSidings$Rake" "made" "Z") (by decide +kernel)) (fun _ h9 => h9) rfl dX0_hasPlace_1 ?_
  refine lv_if_eq (tgt := 32) hx hb dX0_hasPlace_4 (by decide) (fun c_4 => ?_) (fun c_4 => ?_)
  · refine lv_iconst (v := 0) hx hb dX0_hasPlace_32 (by decide) ?_
    exact fw_zret hx hb hr (by decide) hlocks hK hP hD hS dX0_hasPlace_33 ⟨(pif_f (by first | (simp [rkP, eq_true c_4]; done) | (unfold rkP;  clear hx hb hml hr hlocks hnm hts hown hK hP hD hA hS hl; grind))).symm, rfl⟩
  · refine lv_iload_n hx hb dX0_hasPlace_7 rfl (lv_at hl 1 rfl) ?_
    refine lv_if_lt (tgt := 32) hx hb dX0_hasPlace_8 (by decide) (fun c_8 => ?_) (fun c_8 => ?_)
    · refine lv_iconst (v := 0) hx hb dX0_hasPlace_32 (by decide) ?_
      exact fw_zret hx hb hr (by decide) hlocks hK hP hD hS dX0_hasPlace_33 ⟨(pif_f (by first | (simp [rkP, c_4, c_8, Int32.not_le.mpr c_8]; done) | (unfold rkP;  clear hx hb hml hr hlocks hnm hts hown hK hP hD hA hS hl; grind))).symm, rfl⟩
    · refine lv_iload_n hx hb dX0_hasPlace_11 rfl (lv_at hl 1 rfl) ?_
      refine lv_aload_n hx hb dX0_hasPlace_12 rfl (lv_at hl 0 rfl) ?_
      refine fw_get (v := .int (I 7 r0)) (C := RX0) (T := TX0) (N := 4) hx hb hts in0 hown hK hP (x_at7 hj hr0) rfl 2 (by decide) (hts (.fieldLink RX0 25 "WagonSidings$Rake" "size" "I") (by decide +kernel)) (fun _ h9 => h9) rfl dX0_hasPlace_13 ?_
      refine lv_icmp_ge (tgt := 32) hx hb dX0_hasPlace_16 (by decide) (fun c_16 => ?_) (fun c_16 => ?_)
      · refine lv_iconst (v := 0) hx hb dX0_hasPlace_32 (by decide) ?_
        exact fw_zret hx hb hr (by decide) hlocks hK hP hD hS dX0_hasPlace_33 ⟨(pif_f (by first | (simp [rkP, c_4, c_8, Int32.not_lt.mp c_8, c_16, Int32.not_lt.mpr c_16]; done) | (unfold rkP;  clear hx hb hml hr hlocks hnm hts hown hK hP hD hA hS hl; grind))).symm, rfl⟩
      · refine lv_iload_n hx hb dX0_hasPlace_19 rfl (lv_at hl 1 rfl) ?_
        refine lv_aload_n hx hb dX0_hasPlace_20 rfl (lv_at hl 0 rfl) ?_
        refine fw_get (v := .ref (ad 8 r0)) (C := RX0) (T := TX0) (N := 4) hx hb hts in0 hown hK hP (x_at7 hj hr0) rfl 3 (by decide) (hts (.fieldLink RX0 11 "WagonSidings$Rake" "row" "[LWagonSidings$Wagon;") (by decide +kernel)) (fun _ h9 => h9) rfl dX0_hasPlace_21 ?_
        refine fw_alen (v := nI 12) hx hb hK hP 1 (x_at8 hj hr0) rfl rfl dX0_hasPlace_24 ?_
        refine lv_icmp_ge (tgt := 32) hx hb dX0_hasPlace_25 (by decide) (fun c_25 => ?_) (fun c_25 => ?_)
        · refine lv_iconst (v := 0) hx hb dX0_hasPlace_32 (by decide) ?_
          exact fw_zret hx hb hr (by decide) hlocks hK hP hD hS dX0_hasPlace_33 ⟨(pif_f (by first | (simp [rkP, c_4, c_8, Int32.not_lt.mp c_8, c_16, Int32.not_le.mp c_16, c_25, Int32.not_lt.mpr c_25]; done) | (unfold rkP;  clear hx hb hml hr hlocks hnm hts hown hK hP hD hA hS hl; grind))).symm, rfl⟩
        · refine lv_iconst (v := 1) hx hb dX0_hasPlace_28 (by decide) ?_
          refine lv_goto (tgt := 33) hx hb dX0_hasPlace_29 (by decide) ?_
          exact fw_zret hx hb hr (by decide) hlocks hK hP hD hS dX0_hasPlace_33 ⟨(pif_t (by first | (simp [rkP, c_4, c_8, Int32.not_lt.mp c_8, c_16, Int32.not_le.mp c_16, c_25, Int32.not_le.mp c_25]; done) | (unfold rkP;  clear hx hb hml hr hlocks hnm hts hown hK hP hD hA hS hl; grind))).symm, rfl⟩

set_option maxHeartbeats 4000000 in
set_option maxRecDepth 100000 in
theorem c_X1_hasPlace (l : Launch) (D : va_G) (kk : Nat → ClassId) (ad : Nat → Nat → Nat) (n : Nat) (I : sI) (O : sO) (hj : sj (xV n) ad) (hI : xI n O) {t0 : Nat} (ht0 : t0 < 2) (a b : Int32) : fw_Mi l yX1_hasPlace wsX1_hasPlace { frames := 0, cells := 0, slots := 0, locals := 0 } 0 0 D vwCl (xT kk) (xw kk ad n I O) [.ref (ad 9 t0), .int a, .int b] (fun r w1 => r = pif (tbP I t0 a b) 1 0 ∧ w1 = xw kk ad n I O) := by
  refine fw_ofi (cc := cX1_hasPlace) (maxL := 3) (ret := (some .boolean)) (by decide) rfl (Nat.le_of_ble_eq_true rfl) ?_
  intro p e s m args below meth c A ls hx hb hml hr hlocks hnm hts hown hK hP hD hA hS hl
  have hown : s.vm.findClass RX1 = some m.cls := hown
  have hl : lv_has ls 3 [(0, .ref (ad 9 t0)), (1, .int a), (2, .int b)] := hl
  have in1 : ∀ w ∈ u_ws RX1 TX1 4, w ∈ wsX1_hasPlace := by decide +kernel
  refine lv_iload_n hx hb dX1_hasPlace_0 rfl (lv_at hl 1 rfl) ?_
  refine lv_if_lt (tgt := 40) hx hb dX1_hasPlace_1 (by decide) (fun c_1 => ?_) (fun c_1 => ?_)
  · refine lv_iconst (v := 0) hx hb dX1_hasPlace_40 (by decide) ?_
    exact fw_zret hx hb hr (by decide) hlocks hK hP hD hS dX1_hasPlace_41 ⟨(pif_f (by first | (simp [tbP, c_1, Int32.not_le.mpr c_1]; done) | (unfold tbP;  clear hx hb hml hr hlocks hnm hts hown hK hP hD hA hS hl; grind))).symm, rfl⟩
  · refine lv_iload_n hx hb dX1_hasPlace_4 rfl (lv_at hl 1 rfl) ?_
    refine lv_aload_n hx hb dX1_hasPlace_5 rfl (lv_at hl 0 rfl) ?_
    refine fw_get (v := .int (I 9 t0)) (C := RX1) (T := TX1) (N := 4) hx hb hts in1 hown hK hP (x_at9 hj ht0) rfl 1 (by decide) (hts (.fieldLink RX1 19 "WagonSidings$Table" "rows" "I") (by decide +kernel)) (fun _ h9 => h9) rfl dX1_hasPlace_6 ?_
    refine lv_icmp_ge (tgt := 40) hx hb dX1_hasPlace_9 (by decide) (fun c_9 => ?_) (fun c_9 => ?_)
    · refine lv_iconst (v := 0) hx hb dX1_hasPlace_40 (by decide) ?_
      exact fw_zret hx hb hr (by decide) hlocks hK hP hD hS dX1_hasPlace_41 ⟨(pif_f (by first | (simp [tbP, c_1, Int32.not_lt.mp c_1, c_9, Int32.not_lt.mpr c_9]; done) | (unfold tbP;  clear hx hb hml hr hlocks hnm hts hown hK hP hD hA hS hl; grind))).symm, rfl⟩
    · refine lv_iload_n hx hb dX1_hasPlace_12 rfl (lv_at hl 1 rfl) ?_
      refine lv_bipush (v := 12) hx hb dX1_hasPlace_13 (by decide) ?_
      refine lv_icmp_ge (tgt := 40) hx hb dX1_hasPlace_15 (by decide) (fun c_15 => ?_) (fun c_15 => ?_)
      · refine lv_iconst (v := 0) hx hb dX1_hasPlace_40 (by decide) ?_
        exact fw_zret hx hb hr (by decide) hlocks hK hP hD hS dX1_hasPlace_41 ⟨(pif_f (by first | (simp [tbP, c_1, Int32.not_lt.mp c_1, c_9, Int32.not_le.mp c_9, c_15, Int32.not_lt.mpr c_15]; done) | (unfold tbP;  clear hx hb hml hr hlocks hnm hts hown hK hP hD hA hS hl; grind))).symm, rfl⟩
      · refine lv_iload_n hx hb dX1_hasPlace_18 rfl (lv_at hl 2 rfl) ?_
        refine lv_if_lt (tgt := 40) hx hb dX1_hasPlace_19 (by decide) (fun c_19 => ?_) (fun c_19 => ?_)
        · refine lv_iconst (v := 0) hx hb dX1_hasPlace_40 (by decide) ?_
          exact fw_zret hx hb hr (by decide) hlocks hK hP hD hS dX1_hasPlace_41 ⟨(pif_f (by first | (simp [tbP, c_1, Int32.not_lt.mp c_1, c_9, Int32.not_le.mp c_9, c_15, Int32.not_le.mp c_15, c_19, Int32.not_le.mpr c_19]; done) | (unfold tbP;  clear hx hb hml hr hlocks hnm hts hown hK hP hD hA hS hl; grind))).symm, rfl⟩
        · refine lv_iload_n hx hb dX1_hasPlace_22 rfl (lv_at hl 2 rfl) ?_
          refine lv_aload_n hx hb dX1_hasPlace_23 rfl (lv_at hl 0 rfl) ?_
          refine fw_get (v := .int (I 10 t0)) (C := RX1) (T := TX1) (N := 4) hx hb hts in1 hown hK hP (x_at9 hj ht0) rfl 2 (by decide) (hts (.fieldLink RX1 23 "WagonSidings$Table" "columns" "I") (by decide +kernel)) (fun _ h9 => h9) rfl dX1_hasPlace_24 ?_
          refine lv_icmp_ge (tgt := 40) hx hb dX1_hasPlace_27 (by decide) (fun c_27 => ?_) (fun c_27 => ?_)
          · refine lv_iconst (v := 0) hx hb dX1_hasPlace_40 (by decide) ?_
            exact fw_zret hx hb hr (by decide) hlocks hK hP hD hS dX1_hasPlace_41 ⟨(pif_f (by first | (simp [tbP, c_1, Int32.not_lt.mp c_1, c_9, Int32.not_le.mp c_9, c_15, Int32.not_le.mp c_15, c_19, Int32.not_lt.mp c_19, c_27, Int32.not_lt.mpr c_27]; done) | (unfold tbP;  clear hx hb hml hr hlocks hnm hts hown hK hP hD hA hS hl; grind))).symm, rfl⟩
          · refine lv_iload_n hx hb dX1_hasPlace_30 rfl (lv_at hl 2 rfl) ?_
            refine lv_bipush (v := 6) hx hb dX1_hasPlace_31 (by decide) ?_
            refine lv_icmp_ge (tgt := 40) hx hb dX1_hasPlace_33 (by decide) (fun c_33 => ?_) (fun c_33 => ?_)
            · refine lv_iconst (v := 0) hx hb dX1_hasPlace_40 (by decide) ?_
              exact fw_zret hx hb hr (by decide) hlocks hK hP hD hS dX1_hasPlace_41 ⟨(pif_f (by first | (simp [tbP, c_1, Int32.not_lt.mp c_1, c_9, Int32.not_le.mp c_9, c_15, Int32.not_le.mp c_15, c_19, Int32.not_lt.mp c_19, c_27, Int32.not_le.mp c_27, c_33, Int32.not_lt.mpr c_33]; done) | (unfold tbP;  clear hx hb hml hr hlocks hnm hts hown hK hP hD hA hS hl; grind))).symm, rfl⟩
            · refine lv_iconst (v := 1) hx hb dX1_hasPlace_36 (by decide) ?_
              refine lv_goto (tgt := 41) hx hb dX1_hasPlace_37 (by decide) ?_
              exact fw_zret hx hb hr (by decide) hlocks hK hP hD hS dX1_hasPlace_41 ⟨(pif_t (by first | (simp [tbP, c_1, Int32.not_lt.mp c_1, c_9, Int32.not_le.mp c_9, c_15, Int32.not_le.mp c_15, c_19, Int32.not_lt.mp c_19, c_27, Int32.not_le.mp c_27, c_33, Int32.not_le.mp c_33]; done) | (unfold tbP;  clear hx hb hml hr hlocks hnm hts hown hK hP hD hA hS hl; grind))).symm, rfl⟩
