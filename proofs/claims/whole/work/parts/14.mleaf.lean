theorem nI_m1 {j : Nat} (h : j < 1000) : ¬ nI j = -1 := by
  intro z
  have h1 := nI_pos' (n := j) (by omega)
  rw [z] at h1
  exact absurd h1 (by decide)
theorem in_fnd {n : Nat} (hn : n ≤ 100) {a : Int32} (h : ¬ a < 0 ∧ ¬ nI n - 1 < a) : ∃ i, fnd n a = some i := by
  obtain ⟨j, hj, rfl⟩ := nI_of h.1
  cases n with
  | zero =>
    exfalso
    apply h.2
    have : nI 0 - 1 = -1 := by decide
    rw [this]
    have h1 := nI_pos' (n := j) hj
    exact Int32.not_le.mp (fun q => absurd (Int32.le_trans h1 q) (by decide))
  | succ n =>
    rw [nI_pred, nI_ltI (by omega) hj] at h
    exact ⟨j, fnd_nI (by omega) (by omega)⟩
theorem in_nfnd {n : Nat} (hn : n ≤ 100) {a : Int32} (h : ¬ (¬ a < 0 ∧ ¬ nI n - 1 < a)) : fnd n a = none := by
  rcases oc (fnd n a) with q | ⟨i, q⟩
  · exact q
  · exfalso
    obtain ⟨hi, rfl⟩ := fnd_lt q
    refine h ⟨nI_pos (by omega), ?_⟩
    cases n with
    | zero => omega
    | succ n =>
      rw [nI_pred, nI_ltI (by omega) (by omega)]
      omega
theorem b1_in {n : Nat} (hn : n ≤ 100) (a : Int32) : pif (¬ a < 0 ∧ ¬ nI n - 1 < a) (1 : Int32) 0 = b1 (fnd n a) := by
  by_cases h : ¬ a < 0 ∧ ¬ nI n - 1 < a
  · obtain ⟨i, e⟩ := in_fnd hn h
    rw [pif_t h, e]
    rfl
  · rw [pif_f h, in_nfnd hn h]
    rfl
theorem nI_p (n : Nat) : nI (n + 1) - 1 = nI n := nI_pred n
noncomputable def rfs (t a : Int32) : Int32 := match fnd 6 t with
  | none => -101
  | some _ => pif (a < 0 ∨ 40 < a) (-102) 0

set_option maxHeartbeats 4000000 in
set_option maxRecDepth 100000 in
theorem c_X5_in (l : Launch) (D : va_G) (kk : Nat → ClassId) (w : fw_W) (v lo hi : Int32) : fw_Mi l yX5_in wsX5_in { frames := 0, cells := 0, slots := 0, locals := 0 } 0 0 D vwCl (xT kk) w [.int v, .int lo, .int hi] (fun r w1 => r = pif (¬ v < lo ∧ ¬ hi < v) 1 0 ∧ w1 = w) := by
  refine fw_ofi (cc := cX5_in) (maxL := 3) (ret := (some .boolean)) (by decide) rfl (Nat.le_of_ble_eq_true rfl) ?_
  intro p e s m args below meth c A ls hx hb hml hr hlocks hnm hts hown hK hP hD hA hS hl
  have hown : s.vm.findClass RX5 = some m.cls := hown
  have hl : lv_has ls 3 [(0, .int v), (1, .int lo), (2, .int hi)] := hl
  refine lv_iload_n hx hb dX5_in_0 rfl (lv_at hl 0 rfl) ?_
  refine lv_iload_n hx hb dX5_in_1 rfl (lv_at hl 1 rfl) ?_
  refine lv_icmp_lt (tgt := 14) hx hb dX5_in_2 (by decide) (fun c_2 => ?_) (fun c_2 => ?_)
  · refine lv_iconst (v := 0) hx hb dX5_in_14 (by decide) ?_
    exact fw_zret hx hb hr (by decide) hlocks hK hP hD hS dX5_in_15 ⟨(pif_f (by first | (simp [c_2, Int32.not_le.mpr c_2]; done) | ( clear hx hb hml hr hlocks hnm hts hown hK hP hD hA hS hl; grind))).symm, rfl⟩
  · refine lv_iload_n hx hb dX5_in_5 rfl (lv_at hl 0 rfl) ?_
    refine lv_iload_n hx hb dX5_in_6 rfl (lv_at hl 2 rfl) ?_
    refine lv_icmp_gt (tgt := 14) hx hb dX5_in_7 (by decide) (fun c_7 => ?_) (fun c_7 => ?_)
    · refine lv_iconst (v := 0) hx hb dX5_in_14 (by decide) ?_
      exact fw_zret hx hb hr (by decide) hlocks hK hP hD hS dX5_in_15 ⟨(pif_f (by first | (simp [c_2, Int32.not_lt.mp c_2, c_7, Int32.not_le.mpr c_7]; done) | ( clear hx hb hml hr hlocks hnm hts hown hK hP hD hA hS hl; grind))).symm, rfl⟩
    · refine lv_iconst (v := 1) hx hb dX5_in_10 (by decide) ?_
      refine lv_goto (tgt := 15) hx hb dX5_in_11 (by decide) ?_
      exact fw_zret hx hb hr (by decide) hlocks hK hP hD hS dX5_in_15 ⟨(pif_t (by first | (simp [c_2, Int32.not_lt.mp c_2, c_7, Int32.not_lt.mp c_7]; done) | ( clear hx hb hml hr hlocks hnm hts hown hK hP hD hA hS hl; grind))).symm, rfl⟩

theorem pif_01 (P : Prop) : pif P (1 : Int32) 0 = 0 ∨ pif P (1 : Int32) 0 = 1 := by
  by_cases h : P
  · exact Or.inr (pif_t h)
  · exact Or.inl (pif_f h)

set_option maxHeartbeats 4000000 in
set_option maxRecDepth 100000 in
theorem c_X5_isTrack (l : Launch) (D : va_G) (kk : Nat → ClassId) (w : fw_W) (t : Int32) : fw_Mi l yX5_isTrack wsX5_isTrack { frames := 1, cells := 0, slots := 0, locals := 22 } 0 0 D vwCl (xT kk) w [.int t] (fun r w1 => r = b1 (fnd 6 t) ∧ w1 = w) := by
  refine fw_ofi (cc := cX5_isTrack) (maxL := 1) (ret := (some .boolean)) (by decide) rfl (Nat.le_of_ble_eq_true rfl) ?_
  intro p e s m args below meth c A ls hx hb hml hr hlocks hnm hts hown hK hP hD hA hS hl
  have hown : s.vm.findClass RX5 = some m.cls := hown
  have hl : lv_has ls 1 [(0, .int t)] := hl
  refine lv_iload_n hx hb dX5_isTrack_0 rfl (lv_at hl 0 rfl) ?_
  refine lv_iconst (v := 0) hx hb dX5_isTrack_1 (by decide) ?_
  refine lv_iconst (v := 5) hx hb dX5_isTrack_2 (by decide) ?_
  refine fw_calli (va_runS (As := [.int t, .int 0, .int 5]) (rest := []) ⟨hx, hb, hml, hown, hts⟩ (c_X5_in l D kk _ t 0 5 _) (va_cwS 3 hts gX5_isTrack_X5_in rfl rfl rfl (by decide +kernel) ⟨Nat.le_of_ble_eq_true rfl, Nat.le_of_ble_eq_true rfl⟩) (fw_preS hK hP) rfl rfl hl.1 rfl (lv_room (Nat.le_of_ble_eq_true rfl)) dX5_isTrack_3 ⟨Nat.le_of_ble_eq_true rfl, Nat.le_of_ble_eq_true rfl⟩) hD hS hA (fun r w1 H locs hq hP hD hS => ?_)
  obtain ⟨rfl, hw9⟩ := hq
  rw [hw9] at hP hD
  exact fw_zret hx hb hr (pif_01 _) hlocks hK hP hD hS dX5_isTrack_6 ⟨b1_in (n := 6) (by decide) t, rfl⟩

set_option maxHeartbeats 4000000 in
set_option maxRecDepth 100000 in
theorem c_X5_isRake (l : Launch) (D : va_G) (kk : Nat → ClassId) (w : fw_W) (t : Int32) : fw_Mi l yX5_isRake wsX5_isRake { frames := 1, cells := 0, slots := 0, locals := 22 } 0 0 D vwCl (xT kk) w [.int t] (fun r w1 => r = b1 (fnd 4 t) ∧ w1 = w) := by
  refine fw_ofi (cc := cX5_isRake) (maxL := 1) (ret := (some .boolean)) (by decide) rfl (Nat.le_of_ble_eq_true rfl) ?_
  intro p e s m args below meth c A ls hx hb hml hr hlocks hnm hts hown hK hP hD hA hS hl
  have hown : s.vm.findClass RX5 = some m.cls := hown
  have hl : lv_has ls 1 [(0, .int t)] := hl
  refine lv_iload_n hx hb dX5_isRake_0 rfl (lv_at hl 0 rfl) ?_
  refine lv_iconst (v := 0) hx hb dX5_isRake_1 (by decide) ?_
  refine lv_iconst (v := 3) hx hb dX5_isRake_2 (by decide) ?_
  refine fw_calli (va_runS (As := [.int t, .int 0, .int 3]) (rest := []) ⟨hx, hb, hml, hown, hts⟩ (c_X5_in l D kk _ t 0 3 _) (va_cwS 3 hts gX5_isRake_X5_in rfl rfl rfl (by decide +kernel) ⟨Nat.le_of_ble_eq_true rfl, Nat.le_of_ble_eq_true rfl⟩) (fw_preS hK hP) rfl rfl hl.1 rfl (lv_room (Nat.le_of_ble_eq_true rfl)) dX5_isRake_3 ⟨Nat.le_of_ble_eq_true rfl, Nat.le_of_ble_eq_true rfl⟩) hD hS hA (fun r w1 H locs hq hP hD hS => ?_)
  obtain ⟨rfl, hw9⟩ := hq
  rw [hw9] at hP hD
  exact fw_zret hx hb hr (pif_01 _) hlocks hK hP hD hS dX5_isRake_6 ⟨b1_in (n := 4) (by decide) t, rfl⟩

set_option maxHeartbeats 4000000 in
set_option maxRecDepth 100000 in
theorem c_X5_isKind (l : Launch) (D : va_G) (kk : Nat → ClassId) (w : fw_W) (k : Int32) : fw_Mi l yX5_isKind wsX5_isKind { frames := 1, cells := 0, slots := 0, locals := 22 } 0 0 D vwCl (xT kk) w [.int k] (fun r w1 => r = pif (isKd k) 1 0 ∧ w1 = w) := by
  refine fw_ofi (cc := cX5_isKind) (maxL := 1) (ret := (some .boolean)) (by decide) rfl (Nat.le_of_ble_eq_true rfl) ?_
  intro p e s m args below meth c A ls hx hb hml hr hlocks hnm hts hown hK hP hD hA hS hl
  have hown : s.vm.findClass RX5 = some m.cls := hown
  have hl : lv_has ls 1 [(0, .int k)] := hl
  refine lv_iload_n hx hb dX5_isKind_0 rfl (lv_at hl 0 rfl) ?_
  refine lv_iconst (v := 0) hx hb dX5_isKind_1 (by decide) ?_
  refine lv_iconst (v := 4) hx hb dX5_isKind_2 (by decide) ?_
  refine fw_calli (va_runS (As := [.int k, .int 0, .int 4]) (rest := []) ⟨hx, hb, hml, hown, hts⟩ (c_X5_in l D kk _ k 0 4 _) (va_cwS 3 hts gX5_isKind_X5_in rfl rfl rfl (by decide +kernel) ⟨Nat.le_of_ble_eq_true rfl, Nat.le_of_ble_eq_true rfl⟩) (fw_preS hK hP) rfl rfl hl.1 rfl (lv_room (Nat.le_of_ble_eq_true rfl)) dX5_isKind_3 ⟨Nat.le_of_ble_eq_true rfl, Nat.le_of_ble_eq_true rfl⟩) hD hS hA (fun r w1 H locs hq hP hD hS => ?_)
  obtain ⟨rfl, hw9⟩ := hq
  rw [hw9] at hP hD
  exact fw_zret hx hb hr (pif_01 _) hlocks hK hP hD hS dX5_isKind_6 ⟨rfl, rfl⟩

set_option maxHeartbeats 4000000 in
set_option maxRecDepth 100000 in
theorem c_X5_isOf (l : Launch) (D : va_G) (kk : Nat → ClassId) (w : fw_W) (k a : Int32) : fw_Mi l yX5_isOf wsX5_isOf { frames := 0, cells := 0, slots := 0, locals := 0 } 0 0 D vwCl (xT kk) w [.int k, .int a] (fun r w1 => r = pif (isOf k a) 1 0 ∧ w1 = w) := by
  refine fw_ofi (cc := cX5_isOf) (maxL := 2) (ret := (some .boolean)) (by decide) rfl (Nat.le_of_ble_eq_true rfl) ?_
  intro p e s m args below meth c A ls hx hb hml hr hlocks hnm hts hown hK hP hD hA hS hl
  have hown : s.vm.findClass RX5 = some m.cls := hown
  have hl : lv_has ls 2 [(0, .int k), (1, .int a)] := hl
  refine lv_iload_n hx hb dX5_isOf_0 rfl (lv_at hl 1 rfl) ?_
  refine lv_if_eq (tgt := 29) hx hb dX5_isOf_1 (by decide) (fun c_1 => ?_) (fun c_1 => ?_)
  · refine lv_iconst (v := 1) hx hb dX5_isOf_29 (by decide) ?_
    refine lv_goto (tgt := 34) hx hb dX5_isOf_30 (by decide) ?_
    exact fw_zret hx hb hr (by decide) hlocks hK hP hD hS dX5_isOf_34 ⟨(pif_t (by first | (simp [isOf, eq_true c_1]; done) | (unfold isOf;  clear hx hb hml hr hlocks hnm hts hown hK hP hD hA hS hl; grind))).symm, rfl⟩
  · refine lv_iload_n hx hb dX5_isOf_4 rfl (lv_at hl 0 rfl) ?_
    refine lv_iload_n hx hb dX5_isOf_5 rfl (lv_at hl 1 rfl) ?_
    refine lv_icmp_eq (tgt := 29) hx hb dX5_isOf_6 (by decide) (fun c_6 => ?_) (fun c_6 => ?_)
    · refine lv_iconst (v := 1) hx hb dX5_isOf_29 (by decide) ?_
      refine lv_goto (tgt := 34) hx hb dX5_isOf_30 (by decide) ?_
      exact fw_zret hx hb hr (by decide) hlocks hK hP hD hS dX5_isOf_34 ⟨(pif_t (by first | (simp [isOf, c_1, eq_true c_6]; done) | (unfold isOf;  clear hx hb hml hr hlocks hnm hts hown hK hP hD hA hS hl; grind))).symm, rfl⟩
    · refine lv_iload_n hx hb dX5_isOf_9 rfl (lv_at hl 1 rfl) ?_
      refine lv_iconst (v := 1) hx hb dX5_isOf_10 (by decide) ?_
      refine lv_icmp_ne (tgt := 19) hx hb dX5_isOf_11 (by decide) (fun c_11 => ?_) (fun c_11 => ?_)
      · refine lv_iload_n hx hb dX5_isOf_19 rfl (lv_at hl 1 rfl) ?_
        refine lv_iconst (v := 3) hx hb dX5_isOf_20 (by decide) ?_
        refine lv_icmp_ne (tgt := 33) hx hb dX5_isOf_21 (by decide) (fun c_21 => ?_) (fun c_21 => ?_)
        · refine lv_iconst (v := 0) hx hb dX5_isOf_33 (by decide) ?_
          exact fw_zret hx hb hr (by decide) hlocks hK hP hD hS dX5_isOf_34 ⟨(pif_f (by first | (simp [isOf, c_1, c_6, c_11, c_21]; done) | (unfold isOf;  clear hx hb hml hr hlocks hnm hts hown hK hP hD hA hS hl; grind))).symm, rfl⟩
        · refine lv_iload_n hx hb dX5_isOf_24 rfl (lv_at hl 0 rfl) ?_
          refine lv_iconst (v := 4) hx hb dX5_isOf_25 (by decide) ?_
          refine lv_icmp_ne (tgt := 33) hx hb dX5_isOf_26 (by decide) (fun c_26 => ?_) (fun c_26 => ?_)
          · refine lv_iconst (v := 0) hx hb dX5_isOf_33 (by decide) ?_
            exact fw_zret hx hb hr (by decide) hlocks hK hP hD hS dX5_isOf_34 ⟨(pif_f (by first | (simp [isOf, c_1, c_6, c_11, eq_true c_21, c_26]; done) | (unfold isOf;  clear hx hb hml hr hlocks hnm hts hown hK hP hD hA hS hl; grind))).symm, rfl⟩
          · refine lv_iconst (v := 1) hx hb dX5_isOf_29 (by decide) ?_
            refine lv_goto (tgt := 34) hx hb dX5_isOf_30 (by decide) ?_
            exact fw_zret hx hb hr (by decide) hlocks hK hP hD hS dX5_isOf_34 ⟨(pif_t (by first | (simp [isOf, c_1, c_6, c_11, eq_true c_21, eq_true c_26]; done) | (unfold isOf;  clear hx hb hml hr hlocks hnm hts hown hK hP hD hA hS hl; grind))).symm, rfl⟩
      · refine lv_iload_n hx hb dX5_isOf_14 rfl (lv_at hl 0 rfl) ?_
        refine lv_iconst (v := 2) hx hb dX5_isOf_15 (by decide) ?_
        refine lv_icmp_eq (tgt := 29) hx hb dX5_isOf_16 (by decide) (fun c_16 => ?_) (fun c_16 => ?_)
        · refine lv_iconst (v := 1) hx hb dX5_isOf_29 (by decide) ?_
          refine lv_goto (tgt := 34) hx hb dX5_isOf_30 (by decide) ?_
          exact fw_zret hx hb hr (by decide) hlocks hK hP hD hS dX5_isOf_34 ⟨(pif_t (by first | (simp [isOf, c_1, c_6, eq_true c_11, eq_true c_16]; done) | (unfold isOf;  clear hx hb hml hr hlocks hnm hts hown hK hP hD hA hS hl; grind))).symm, rfl⟩
        · refine lv_iload_n hx hb dX5_isOf_19 rfl (lv_at hl 1 rfl) ?_
          refine lv_iconst (v := 3) hx hb dX5_isOf_20 (by decide) ?_
          refine lv_icmp_ne (tgt := 33) hx hb dX5_isOf_21 (by decide) (fun c_21 => ?_) (fun c_21 => ?_)
          · refine lv_iconst (v := 0) hx hb dX5_isOf_33 (by decide) ?_
            exact fw_zret hx hb hr (by decide) hlocks hK hP hD hS dX5_isOf_34 ⟨(pif_f (by first | (simp [isOf, c_1, c_6, eq_true c_11, c_16, c_21]; done) | (unfold isOf;  clear hx hb hml hr hlocks hnm hts hown hK hP hD hA hS hl; grind))).symm, rfl⟩
          · refine lv_iload_n hx hb dX5_isOf_24 rfl (lv_at hl 0 rfl) ?_
            refine lv_iconst (v := 4) hx hb dX5_isOf_25 (by decide) ?_
            refine lv_icmp_ne (tgt := 33) hx hb dX5_isOf_26 (by decide) (fun c_26 => ?_) (fun c_26 => ?_)
            · refine lv_iconst (v := 0) hx hb dX5_isOf_33 (by decide) ?_
              exact fw_zret hx hb hr (by decide) hlocks hK hP hD hS dX5_isOf_34 ⟨(pif_f (by first | (simp [isOf, c_1, c_6, eq_true c_11, c_16, eq_true c_21, c_26]; done) | (unfold isOf;  clear hx hb hml hr hlocks hnm hts hown hK hP hD hA hS hl; grind))).symm, rfl⟩
            · refine lv_iconst (v := 1) hx hb dX5_isOf_29 (by decide) ?_
              refine lv_goto (tgt := 34) hx hb dX5_isOf_30 (by decide) ?_
              exact fw_zret hx hb hr (by decide) hlocks hK hP hD hS dX5_isOf_34 ⟨(pif_t (by first | (simp [isOf, c_1, c_6, eq_true c_11, c_16, eq_true c_21, eq_true c_26]; done) | (unfold isOf;  clear hx hb hml hr hlocks hnm hts hown hK hP hD hA hS hl; grind))).symm, rfl⟩

set_option maxHeartbeats 4000000 in
set_option maxRecDepth 100000 in
theorem c_X5_isWagon (l : Launch) (D : va_G) (kk : Nat → ClassId) (ad : Nat → Nat → Nat) (n : Nat) (I : sI) (O : sO) (J : sI) (hj : sj mV ad) (hY : yI n I O) (hR : mR n I O J) (a : Int32) : fw_Mi l yX5_isWagon wsX5_isWagon { frames := 1, cells := 0, slots := 0, locals := 22 } 0 0 D vwCl (xT kk) (mw kk ad J) [.ref (ad 0 0), .int a] (fun r w1 => r = b1 (fnd n a) ∧ w1 = mw kk ad J) := by
  refine fw_ofi (cc := cX5_isWagon) (maxL := 2) (ret := (some .boolean)) (by decide) rfl (Nat.le_of_ble_eq_true rfl) ?_
  intro p e s m args below meth c A ls hx hb hml hr hlocks hnm hts hown hK hP hD hA hS hl
  have hown : s.vm.findClass RX5 = some m.cls := hown
  have hl : lv_has ls 2 [(0, .ref (ad 0 0)), (1, .int a)] := hl
  have in5 : ∀ w ∈ u_ws RX5 TX5 15, w ∈ wsX5_isWagon := by decide +kernel
  refine lv_iload_n hx hb dX5_isWagon_0 rfl (lv_at hl 1 rfl) ?_
  refine lv_iconst (v := 0) hx hb dX5_isWagon_1 (by decide) ?_
  refine lv_aload_n hx hb dX5_isWagon_2 rfl (lv_at hl 0 rfl) ?_
  refine fw_get (v := .int (J 0 0)) (C := RX5) (T := TX5) (N := 15) hx hb hts in5 hown hK hP (m_at0 hj) rfl 0 (by decide) (hts (.fieldLink RX5 43 "WagonSidingsModel" "wagons" "I") (by decide +kernel)) (fun _ h9 => h9) rfl dX5_isWagon_3 ?_
  refine lv_iconst (v := 1) hx hb dX5_isWagon_6 (by decide) ?_
  refine lv_isub hx hb dX5_isWagon_7 ?_
  refine fw_calli (va_runS (As := [.int a, .int 0, .int ((J 0 0) - 1)]) (rest := []) ⟨hx, hb, hml, hown, hts⟩ (c_X5_in l D kk _ a 0 ((J 0 0) - 1) _) (va_cwS 3 hts gX5_isWagon_X5_in rfl rfl rfl (by decide +kernel) ⟨Nat.le_of_ble_eq_true rfl, Nat.le_of_ble_eq_true rfl⟩) (fw_preS hK hP) rfl rfl hl.1 rfl (lv_room (Nat.le_of_ble_eq_true rfl)) dX5_isWagon_8 ⟨Nat.le_of_ble_eq_true rfl, Nat.le_of_ble_eq_true rfl⟩) hD hS hA (fun r w1 H locs hq hP hD hS => ?_)
  obtain ⟨rfl, rfl⟩ := hq
  exact fw_zret hx hb hr (pif_01 _) hlocks hK hP hD hS dX5_isWagon_11 ⟨by rw [hR.1]; exact b1_in (Nat.le_trans hY.1.1 (by decide)) a, rfl⟩

set_option maxHeartbeats 4000000 in
set_option maxRecDepth 100000 in
theorem c_X5_ends (l : Launch) (D : va_G) (kk : Nat → ClassId) (ad : Nat → Nat → Nat) (J : sI) (hj : sj mV ad) (f c0 : Int32) : fw_Mi l yX5_ends wsX5_ends { frames := 0, cells := 0, slots := 0, locals := 0 } 0 0 D vwCl (xT kk) (mw kk ad J) [.ref (ad 0 0), .int f, .int c0] (fun r w1 => r = -200 - f ∧ w1 = mw kk ad (mtl J f c0)) := by
  refine fw_ofi (cc := cX5_ends) (maxL := 3) (ret := (some .int)) (by decide) rfl (Nat.le_of_ble_eq_true rfl) ?_
  intro p e s m args below meth c A ls hx hb hml hr hlocks hnm hts hown hK hP hD hA hS hl
  have hown : s.vm.findClass RX5 = some m.cls := hown
  have hl : lv_has ls 3 [(0, .ref (ad 0 0)), (1, .int f), (2, .int c0)] := hl
  have in5 : ∀ w ∈ u_ws RX5 TX5 15, w ∈ wsX5_ends := by decide +kernel
  refine lv_aload_n hx hb dX5_ends_0 rfl (lv_at hl 0 rfl) ?_
  refine lv_iload_n hx hb dX5_ends_1 rfl (lv_at hl 1 rfl) ?_
  refine fw_put (v := .int f) (ty := .int) (C := RX5) (T := TX5) (N := 15) hx hb hts in5 tyX5 tyX5_ok nmX5 hown hK hP hD hS (m_at0 hj) rfl 12 (by decide) (hts (.fieldLink RX5 68 "WagonSidingsModel" "failure" "I") (by decide +kernel)) (fun _ h9 => h9) rfl (by decide +kernel) rfl rfl (Nat.le_of_ble_eq_true rfl) dX5_ends_2 (m_put12 hj) (fun H locs hP hD hS => ?_)
  refine lv_aload_n hx hb dX5_ends_5 rfl (lv_at hl 0 rfl) ?_
  refine lv_iload_n hx hb dX5_ends_6 rfl (lv_at hl 2 rfl) ?_
  refine fw_put (v := .int c0) (ty := .int) (C := RX5) (T := TX5) (N := 15) hx hb hts in5 tyX5 tyX5_ok nmX5 hown hK hP hD hS (m_at0 hj) rfl 13 (by decide) (hts (.fieldLink RX5 71 "WagonSidingsModel" "gone" "I") (by decide +kernel)) (fun _ h9 => h9) rfl (by decide +kernel) rfl rfl (Nat.le_of_ble_eq_true rfl) dX5_ends_7 (m_put13 hj) (fun H locs hP hD hS => ?_)
  refine lv_aload_n hx hb dX5_ends_10 rfl (lv_at hl 0 rfl) ?_
  refine lv_iconst (v := 0) hx hb dX5_ends_11 (by decide) ?_
  refine fw_put (v := .int 0) (ty := .int) (C := RX5) (T := TX5) (N := 15) hx hb hts in5 tyX5 tyX5_ok nmX5 hown hK hP hD hS (m_at0 hj) rfl 14 (by decide) (hts (.fieldLink RX5 74 "WagonSidingsModel" "raised" "I") (by decide +kernel)) (fun _ h9 => h9) rfl (by decide +kernel) rfl rfl (Nat.le_of_ble_eq_true rfl) dX5_ends_12 (m_put14 hj) (fun H locs hP hD hS => ?_)
  refine lv_sipush (v := (-200)) hx hb dX5_ends_15 (by decide) ?_
  refine lv_iload_n hx hb dX5_ends_18 rfl (lv_at hl 1 rfl) ?_
  refine lv_isub hx hb dX5_ends_19 ?_
  exact fw_iret hx hb hr hlocks hK hP hD hS dX5_ends_20 ⟨rfl, rfl⟩

set_option maxHeartbeats 4000000 in
set_option maxRecDepth 100000 in
theorem c_X5_well (l : Launch) (D : va_G) (kk : Nat → ClassId) (ad : Nat → Nat → Nat) (J : sI) (hj : sj mV ad) (v c0 : Int32) : fw_Mi l yX5_well wsX5_well { frames := 1, cells := 0, slots := 0, locals := 22 } 0 0 D vwCl (xT kk) (mw kk ad J) [.ref (ad 0 0), .int v, .int c0] (fun r w1 => r = v ∧ w1 = mw kk ad (mtl J 0 c0)) := by
  refine fw_ofi (cc := cX5_well) (maxL := 3) (ret := (some .int)) (by decide) rfl (Nat.le_of_ble_eq_true rfl) ?_
  intro p e s m args below meth c A ls hx hb hml hr hlocks hnm hts hown hK hP hD hA hS hl
  have hown : s.vm.findClass RX5 = some m.cls := hown
  have hl : lv_has ls 3 [(0, .ref (ad 0 0)), (1, .int v), (2, .int c0)] := hl
  refine lv_aload_n hx hb dX5_well_0 rfl (lv_at hl 0 rfl) ?_
  refine lv_iconst (v := 0) hx hb dX5_well_1 (by decide) ?_
  refine lv_iload_n hx hb dX5_well_2 rfl (lv_at hl 2 rfl) ?_
  refine fw_calli (va_runV (As := [.int 0, .int c0]) (rest := []) ⟨hx, hb, hml, hown, hts⟩ (c_X5_ends l D kk ad J hj 0 c0 _) (cwV 2 hts gX5_well_X5_ends rfl rfl rfl (by decide +kernel) ⟨Nat.le_of_ble_eq_true rfl, Nat.le_of_ble_eq_true rfl⟩) (fw_preV hK hP (ci := 5) rfl (m_at0 hj)) rfl rfl hl.1 rfl (lv_room (Nat.le_of_ble_eq_true rfl)) dX5_well_3 ⟨Nat.le_of_ble_eq_true rfl, Nat.le_of_ble_eq_true rfl⟩) hD hS hA (fun r w1 H locs hq hP hD hS => ?_)
  obtain ⟨rfl, rfl⟩ := hq
  refine lv_pop hx hb dX5_well_6 rfl ?_
  refine lv_iload_n hx hb dX5_well_7 rfl (lv_at hl 1 rfl) ?_
  exact fw_iret hx hb hr hlocks hK hP hD hS dX5_well_8 ⟨rfl, rfl⟩

set_option maxHeartbeats 4000000 in
set_option maxRecDepth 100000 in
theorem c_X5_refused (l : Launch) (D : va_G) (kk : Nat → ClassId) (w : fw_W) (t a : Int32) : fw_Mi l yX5_refused wsX5_refused { frames := 2, cells := 0, slots := 0, locals := 42 } 0 0 D vwCl (xT kk) w [.int t, .int a] (fun r w1 => r = rfs t a ∧ w1 = w) := by
  refine fw_ofi (cc := cX5_refused) (maxL := 2) (ret := (some .int)) (by decide) rfl (Nat.le_of_ble_eq_true rfl) ?_
  intro p e s m args below meth c A ls hx hb hml hr hlocks hnm hts hown hK hP hD hA hS hl
  have hown : s.vm.findClass RX5 = some m.cls := hown
  have hl : lv_has ls 2 [(0, .int t), (1, .int a)] := hl
  refine lv_iload_n hx hb dX5_refused_0 rfl (lv_at hl 0 rfl) ?_
  refine fw_calli (va_runS (As := [.int t]) (rest := []) ⟨hx, hb, hml, hown, hts⟩ (c_X5_isTrack l D kk _ t _) (va_cwS 1 hts gX5_refused_X5_isTrack rfl rfl rfl (by decide +kernel) ⟨Nat.le_of_ble_eq_true rfl, Nat.le_of_ble_eq_true rfl⟩) (fw_preS hK hP) rfl rfl hl.1 rfl (lv_room (Nat.le_of_ble_eq_true rfl)) dX5_refused_1 ⟨Nat.le_of_ble_eq_true rfl, Nat.le_of_ble_eq_true rfl⟩) hD hS hA (fun r w1 H locs hq hP hD hS => ?_)
  obtain ⟨rfl, hw9⟩ := hq
  rw [hw9] at hP hD
  rcases oc (fnd 6 t) with hf1 | ⟨i2, hf1⟩
  · refine W.eq (g2 := F0 m 4 ls [.int 0]) (by rw [hf1]; rfl) ?_
    refine lv_if_ne (tgt := 12) hx hb dX5_refused_4 (by decide) (fun c9 => absurd c9 (by decide)) (fun _ => ?_)
    refine lv_bipush (v := (-101)) hx hb dX5_refused_7 (by decide) ?_
    refine lv_goto (tgt := 28) hx hb dX5_refused_9 (by decide) ?_
    exact fw_iret hx hb hr hlocks hK hP hD hS dX5_refused_28 ⟨by rw [rfs, hf1], rfl⟩
  · refine W.eq (g2 := F0 m 4 ls [.int 1]) (by rw [hf1]; rfl) ?_
    obtain ⟨hi2, rfl⟩ := fnd_lt hf1
    refine lv_if_ne (tgt := 12) hx hb dX5_refused_4 (by decide) (fun _ => ?_) (fun c9 => absurd c9 (by decide))
    refine lv_iload_n hx hb dX5_refused_12 rfl (lv_at hl 1 rfl) ?_
    refine lv_iconst (v := 0) hx hb dX5_refused_13 (by decide) ?_
    refine lv_bipush (v := 40) hx hb dX5_refused_14 (by decide) ?_
    refine fw_calli (va_runS (As := [.int a, .int 0, .int 40]) (rest := []) ⟨hx, hb, hml, hown, hts⟩ (c_X5_in l D kk _ a 0 40 _) (va_cwS 3 hts gX5_refused_X5_in rfl rfl rfl (by decide +kernel) ⟨Nat.le_of_ble_eq_true rfl, Nat.le_of_ble_eq_true rfl⟩) (fw_preS hK hP) rfl rfl hl.1 rfl (lv_room (Nat.le_of_ble_eq_true rfl)) dX5_refused_16 ⟨Nat.le_of_ble_eq_true rfl, Nat.le_of_ble_eq_true rfl⟩) hD hS hA (fun r w1 H locs hq hP hD hS => ?_)
    obtain ⟨rfl, hw9⟩ := hq
    rw [hw9] at hP hD
    by_cases hb3 : (¬ a < 0 ∧ ¬ 40 < a)
    · rw [pif_t hb3]
      refine lv_if_ne (tgt := 27) hx hb dX5_refused_19 (by decide) (fun _ => ?_) (fun c9 => absurd c9 (by decide))
      refine lv_iconst (v := 0) hx hb dX5_refused_27 (by decide) ?_
      exact fw_iret hx hb hr hlocks hK hP hD hS dX5_refused_28 ⟨by rw [rfs, hf1]; exact (pif_f (fun z => z.elim hb3.1 hb3.2)).symm, rfl⟩
    · rw [pif_f hb3]
      refine lv_if_ne (tgt := 27) hx hb dX5_refused_19 (by decide) (fun c9 => absurd c9 (by decide)) (fun _ => ?_)
      refine lv_bipush (v := (-102)) hx hb dX5_refused_22 (by decide) ?_
      refine lv_goto (tgt := 28) hx hb dX5_refused_24 (by decide) ?_
      exact fw_iret hx hb hr hlocks hK hP hD hS dX5_refused_28 ⟨by rw [rfs, hf1]; exact (pif_t (by by_cases z : a < 0; exact Or.inl z; exact Or.inr (Classical.byContradiction (fun y => hb3 ⟨z, y⟩)))).symm, rfl⟩

