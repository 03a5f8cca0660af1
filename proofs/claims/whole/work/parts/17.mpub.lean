theorem fc_yes {I : sI} {r c x g : Nat} (e : I g r = nI c) (hx : x < c) (hc : c ≤ 100) : ¬ (nI x < 0 ∨ ¬ nI x < I g r) := by
  rw [e]
  rintro (z | z)
  · exact nI_pos (by omega) z
  · exact z (nI_lt hx (by omega))
theorem fc_no {I : sI} {r c g : Nat} {a : Int32} (e : I g r = nI c) (hc : c ≤ 100) (h : fnd c a = none) : a < 0 ∨ ¬ a < I g r := by
  by_cases h1 : a < 0
  · exact Or.inl h1
  · refine Or.inr (fun h2 => ?_)
    rw [e] at h2
    obtain ⟨j, hj, rfl⟩ := nI_of h1
    rw [nI_ltI hj (by omega)] at h2
    rw [fnd_nI (by omega) h2] at h
    cases h
theorem tc_yes {I : sI} {t c d x y : Nat} (e : I 9 t = nI c) (e' : I 10 t = nI d) (hx : x < c) (hy : y < d) (hc : c ≤ 100) (hd : d ≤ 100) : ¬ (nI x < 0 ∨ ¬ nI x < I 9 t ∨ nI y < 0 ∨ ¬ nI y < I 10 t) := by
  have h1 := fc_yes e hx hc
  have h2 := fc_yes e' hy hd
  rintro (z | z | z | z)
  · exact h1 (Or.inl z)
  · exact h1 (Or.inr z)
  · exact h2 (Or.inl z)
  · exact h2 (Or.inr z)
theorem in_m2 (a : Int32) : ¬ (¬ a < 0 ∧ ¬ (-1) - 1 < a) := by
  intro h
  have h1 := Int32.not_lt.mp h.1
  have h2 := Int32.not_lt.mp h.2
  exact absurd (Int32.le_trans h1 h2) (by decide)
theorem kd4 {q : Int32} (h : ¬ q < 0 ∧ ¬ 3 < q) : q = 0 ∨ q = 1 ∨ q = 2 ∨ q = 3 := by
  obtain ⟨j, hj, rfl⟩ := nI_of h.1
  have h2 := h.2
  rw [show (3 : Int32) = nI 3 from rfl, nI_ltI (by decide) hj] at h2
  rcases (show j = 0 ∨ j = 1 ∨ j = 2 ∨ j = 3 by omega) with rfl | rfl | rfl | rfl
  · exact Or.inl rfl
  · exact Or.inr (Or.inl rfl)
  · exact Or.inr (Or.inr (Or.inl rfl))
  · exact Or.inr (Or.inr (Or.inr rfl))

set_option maxHeartbeats 4000000 in
set_option maxRecDepth 100000 in
theorem c_X5_places (l : Launch) (D : va_G) (kk : Nat → ClassId) (ad : Nat → Nat → Nat) (n : Nat) (I : sI) (O : sO) (J : sI) (hj : sj mV ad) (hY : yI n I O) (hR : mR n I O J) (r0 : Int32) : fw_Mi l yX5_places wsX5_places { frames := 2, cells := 0, slots := 0, locals := 44 } 0 0 D vwCl (xT kk) (mw kk ad J) [.ref (ad 0 0), .int r0] (fun r w1 => ∃ I1 O1 J1, sp_places I O r0 = (r, I1, O1) ∧ mR n I1 O1 J1 ∧ w1 = mw kk ad J1) := by
  refine fw_ofi (cc := cX5_places) (maxL := 2) (ret := (some .int)) (by decide) rfl (Nat.le_of_ble_eq_true rfl) ?_
  intro p e s m args below meth c A ls hx hb hml hr hlocks hnm hts hown hK hP hD hA hS hl
  have hown : s.vm.findClass RX5 = some m.cls := hown
  have hl : lv_has ls 2 [(0, .ref (ad 0 0)), (1, .int r0)] := hl
  have in5 : ∀ w ∈ u_ws RX5 TX5 15, w ∈ wsX5_places := by decide +kernel
  have hn40 := hY.1.1
  refine lv_iload_n hx hb dX5_places_0 rfl (lv_at hl 1 rfl) ?_
  refine fw_calli (va_runS (As := [.int r0]) (rest := []) ⟨hx, hb, hml, hown, hts⟩ (c_X5_isRake l D kk _ r0 _) (va_cwS 1 hts gX5_places_X5_isRake rfl rfl rfl (by decide +kernel) ⟨Nat.le_of_ble_eq_true rfl, Nat.le_of_ble_eq_true rfl⟩) (fw_preS hK hP) rfl rfl hl.1 rfl (lv_room (Nat.le_of_ble_eq_true rfl)) dX5_places_1 ⟨Nat.le_of_ble_eq_true rfl, Nat.le_of_ble_eq_true rfl⟩) hD hS hA (fun r w1 H locs hq hP hD hS => ?_)
  obtain ⟨rfl, rfl⟩ := hq
  rcases oc (fnd 4 r0) with hf1 | ⟨i2, hf1⟩
  · refine W.eq (g2 := F0 m 4 ls [.int 0]) (by rw [hf1]; rfl) ?_
    refine lv_if_ne (tgt := 10) hx hb dX5_places_4 (by decide) (fun c9 => absurd c9 (by decide)) (fun _ => ?_)
    refine lv_bipush (v := (-101)) hx hb dX5_places_7 (by decide) ?_
    exact fw_iret hx hb hr hlocks hK hP hD hS dX5_places_9 ⟨_, _, _, by simp [sp_places, pif_True, pif_False, hf1], hR, rfl⟩
  · refine W.eq (g2 := F0 m 4 ls [.int 1]) (by rw [hf1]; rfl) ?_
    obtain ⟨hi2, rfl⟩ := fnd_lt hf1
    refine lv_if_ne (tgt := 10) hx hb dX5_places_4 (by decide) (fun _ => ?_) (fun c9 => absurd c9 (by decide))
    refine lv_aload_n hx hb dX5_places_10 rfl (lv_at hl 0 rfl) ?_
    refine fw_get (v := .ref (ad 6 0)) (C := RX5) (T := TX5) (N := 15) hx hb hts in5 hown hK hP (m_at0 hj) rfl 6 (by decide) (hts (.fieldLink RX5 25 "WagonSidingsModel" "rakeLong" "[I") (by decide +kernel)) (fun _ h9 => h9) rfl dX5_places_11 ?_
    refine lv_iload_n hx hb dX5_places_14 rfl (lv_at hl 1 rfl) ?_
    refine fw_iald hx hb hK hP 0 (m_at6 hj) rfl (vp_in_nI (by omega) (by decide)) dX5_places_15 ?_
    by_cases hp3 : I 5 i2 = 0
    · refine W.eq (g2 := F0 m 16 ls [.int (-1)]) (by rw [nI_clamp (by omega), hR.2.2.2.2.2.2.1 _ (by omega), pif_t hp3]) ?_
      refine lv_iconst (v := (-1)) hx hb dX5_places_16 (by decide) ?_
      refine lv_icmp_ne (tgt := 29) hx hb dX5_places_17 (by decide) (fun c9 => absurd rfl c9) (fun _ => ?_)
      refine lv_aload_n hx hb dX5_places_20 rfl (lv_at hl 0 rfl) ?_
      refine lv_iconst (v := 1) hx hb dX5_places_21 (by decide) ?_
      refine lv_iconst (v := 0) hx hb dX5_places_22 (by decide) ?_
      refine fw_calli (va_runV (As := [.int 1, .int 0]) (rest := []) ⟨hx, hb, hml, hown, hts⟩ (c_X5_ends l D kk ad J hj 1 0 _) (cwV 2 hts gX5_places_X5_ends rfl rfl rfl (by decide +kernel) ⟨Nat.le_of_ble_eq_true rfl, Nat.le_of_ble_eq_true rfl⟩) (fw_preV hK hP (ci := 5) rfl (m_at0 hj)) rfl rfl hl.1 rfl (lv_room (Nat.le_of_ble_eq_true rfl)) dX5_places_23 ⟨Nat.le_of_ble_eq_true rfl, Nat.le_of_ble_eq_true rfl⟩) hD hS hA (fun r w1 H locs hq hP hD hS => ?_)
      obtain ⟨rfl, rfl⟩ := hq
      refine lv_goto (tgt := 40) hx hb dX5_places_26 (by decide) ?_
      exact fw_iret hx hb hr hlocks hK hP hD hS dX5_places_40 ⟨_, _, _, by simp [sp_places, pif_True, pif_False, hf1, eq_true hp3], mR_tell hR, rfl⟩
    · obtain ⟨c4, hc4, e6⟩ := hY.2.2.2.2.2.2.1 _ hp3
      refine W.eq (g2 := F0 m 16 ls [.int (nI c4)]) (by rw [nI_clamp (by omega), hR.2.2.2.2.2.2.1 _ (by omega), pif_f hp3, e6]) ?_
      refine lv_iconst (v := (-1)) hx hb dX5_places_16 (by decide) ?_
      refine lv_icmp_ne (tgt := 29) hx hb dX5_places_17 (by decide) (fun _ => ?_) (fun c9 => absurd c9 (nI_m1 (by omega)))
      refine lv_aload_n hx hb dX5_places_29 rfl (lv_at hl 0 rfl) ?_
      refine lv_aload_n hx hb dX5_places_30 rfl (lv_at hl 0 rfl) ?_
      refine fw_get (v := .ref (ad 6 0)) (C := RX5) (T := TX5) (N := 15) hx hb hts in5 hown hK hP (m_at0 hj) rfl 6 (by decide) (hts (.fieldLink RX5 25 "WagonSidingsModel" "rakeLong" "[I") (by decide +kernel)) (fun _ h9 => h9) rfl dX5_places_31 ?_
      refine lv_iload_n hx hb dX5_places_34 rfl (lv_at hl 1 rfl) ?_
      refine fw_iald hx hb hK hP 0 (m_at6 hj) rfl (vp_in_nI (by omega) (by decide)) dX5_places_35 ?_
      refine W.eq (g2 := F0 m 36 ls [.int (nI c4), .ref (ad 0 0)]) (by rw [nI_clamp (by omega), hR.2.2.2.2.2.2.1 _ (by omega), pif_f hp3, e6]) ?_
      refine lv_iconst (v := 0) hx hb dX5_places_36 (by decide) ?_
      refine fw_calli (va_runV (As := [.int (nI c4), .int 0]) (rest := []) ⟨hx, hb, hml, hown, hts⟩ (c_X5_well l D kk ad J hj (nI c4) 0 _) (cwV 2 hts gX5_places_X5_well rfl rfl rfl (by decide +kernel) ⟨Nat.le_of_ble_eq_true rfl, Nat.le_of_ble_eq_true rfl⟩) (fw_preV hK hP (ci := 5) rfl (m_at0 hj)) rfl rfl hl.1 rfl (lv_room (Nat.le_of_ble_eq_true rfl)) dX5_places_37 ⟨Nat.le_of_ble_eq_true rfl, Nat.le_of_ble_eq_true rfl⟩) hD hS hA (fun r w1 H locs hq hP hD hS => ?_)
      obtain ⟨rfl, rfl⟩ := hq
      exact fw_iret hx hb hr hlocks hK hP hD hS dX5_places_40 ⟨_, _, _, by simp [sp_places, pif_True, pif_False, hf1, hp3, e6], mR_tell hR, rfl⟩

set_option maxHeartbeats 4000000 in
set_option maxRecDepth 100000 in
theorem c_X5_loadOn (l : Launch) (D : va_G) (kk : Nat → ClassId) (ad : Nat → Nat → Nat) (n : Nat) (I : sI) (O : sO) (J : sI) (hj : sj mV ad) (hY : yI n I O) (hR : mR n I O J) (r0 a : Int32) : fw_Mi l yX5_loadOn wsX5_loadOn { frames := 2, cells := 0, slots := 0, locals := 44 } 0 0 D vwCl (xT kk) (mw kk ad J) [.ref (ad 0 0), .int r0, .int a] (fun r w1 => ∃ I1 O1 J1, sp_loadOn I O r0 a = (r, I1, O1) ∧ mR n I1 O1 J1 ∧ w1 = mw kk ad J1) := by
  refine fw_ofi (cc := cX5_loadOn) (maxL := 4) (ret := (some .int)) (by decide) rfl (Nat.le_of_ble_eq_true rfl) ?_
  intro p e s m args below meth c A ls hx hb hml hr hlocks hnm hts hown hK hP hD hA hS hl
  have hown : s.vm.findClass RX5 = some m.cls := hown
  have hl : lv_has ls 4 [(0, .ref (ad 0 0)), (1, .int r0), (2, .int a)] := hl
  have in5 : ∀ w ∈ u_ws RX5 TX5 15, w ∈ wsX5_loadOn := by decide +kernel
  have hn40 := hY.1.1
  refine lv_iload_n hx hb dX5_loadOn_0 rfl (lv_at hl 1 rfl) ?_
  refine fw_calli (va_runS (As := [.int r0]) (rest := []) ⟨hx, hb, hml, hown, hts⟩ (c_X5_isRake l D kk _ r0 _) (va_cwS 1 hts gX5_loadOn_X5_isRake rfl rfl rfl (by decide +kernel) ⟨Nat.le_of_ble_eq_true rfl, Nat.le_of_ble_eq_true rfl⟩) (fw_preS hK hP) rfl rfl hl.1 rfl (lv_room (Nat.le_of_ble_eq_true rfl)) dX5_loadOn_1 ⟨Nat.le_of_ble_eq_true rfl, Nat.le_of_ble_eq_true rfl⟩) hD hS hA (fun r w1 H locs hq hP hD hS => ?_)
  obtain ⟨rfl, rfl⟩ := hq
  rcases oc (fnd 4 r0) with hf1 | ⟨i2, hf1⟩
  · refine W.eq (g2 := F0 m 4 ls [.int 0]) (by rw [hf1]; rfl) ?_
    refine lv_if_ne (tgt := 10) hx hb dX5_loadOn_4 (by decide) (fun c9 => absurd c9 (by decide)) (fun _ => ?_)
    refine lv_bipush (v := (-101)) hx hb dX5_loadOn_7 (by decide) ?_
    exact fw_iret hx hb hr hlocks hK hP hD hS dX5_loadOn_9 ⟨_, _, _, by simp [sp_loadOn, hf1], hR, rfl⟩
  · refine W.eq (g2 := F0 m 4 ls [.int 1]) (by rw [hf1]; rfl) ?_
    obtain ⟨hi2, rfl⟩ := fnd_lt hf1
    refine lv_if_ne (tgt := 10) hx hb dX5_loadOn_4 (by decide) (fun _ => ?_) (fun c9 => absurd c9 (by decide))
    refine lv_aload_n hx hb dX5_loadOn_10 rfl (lv_at hl 0 rfl) ?_
    refine fw_get (v := .ref (ad 6 0)) (C := RX5) (T := TX5) (N := 15) hx hb hts in5 hown hK hP (m_at0 hj) rfl 6 (by decide) (hts (.fieldLink RX5 25 "WagonSidingsModel" "rakeLong" "[I") (by decide +kernel)) (fun _ h9 => h9) rfl dX5_loadOn_11 ?_
    refine lv_iload_n hx hb dX5_loadOn_14 rfl (lv_at hl 1 rfl) ?_
    refine fw_iald hx hb hK hP 0 (m_at6 hj) rfl (vp_in_nI (by omega) (by decide)) dX5_loadOn_15 ?_
    by_cases hp3 : I 5 i2 = 0
    · refine W.eq (g2 := F0 m 16 ls [.int (-1)]) (by rw [nI_clamp (by omega), hR.2.2.2.2.2.2.1 _ (by omega), pif_t hp3]) ?_
      refine lv_iconst (v := (-1)) hx hb dX5_loadOn_16 (by decide) ?_
      refine lv_icmp_ne (tgt := 27) hx hb dX5_loadOn_17 (by decide) (fun c9 => absurd rfl c9) (fun _ => ?_)
      refine lv_aload_n hx hb dX5_loadOn_20 rfl (lv_at hl 0 rfl) ?_
      refine lv_iconst (v := 1) hx hb dX5_loadOn_21 (by decide) ?_
      refine lv_iconst (v := 0) hx hb dX5_loadOn_22 (by decide) ?_
      refine fw_calli (va_runV (As := [.int 1, .int 0]) (rest := []) ⟨hx, hb, hml, hown, hts⟩ (c_X5_ends l D kk ad J hj 1 0 _) (cwV 2 hts gX5_loadOn_X5_ends rfl rfl rfl (by decide +kernel) ⟨Nat.le_of_ble_eq_true rfl, Nat.le_of_ble_eq_true rfl⟩) (fw_preV hK hP (ci := 5) rfl (m_at0 hj)) rfl rfl hl.1 rfl (lv_room (Nat.le_of_ble_eq_true rfl)) dX5_loadOn_23 ⟨Nat.le_of_ble_eq_true rfl, Nat.le_of_ble_eq_true rfl⟩) hD hS hA (fun r w1 H locs hq hP hD hS => ?_)
      obtain ⟨rfl, rfl⟩ := hq
      exact fw_iret hx hb hr hlocks hK hP hD hS dX5_loadOn_26 ⟨_, _, _, by simp [sp_loadOn, pif_True, pif_False, hf1, eq_true hp3], mR_tell hR, rfl⟩
    · obtain ⟨c4, hc4, e6⟩ := hY.2.2.2.2.2.2.1 _ hp3
      refine W.eq (g2 := F0 m 16 ls [.int (nI c4)]) (by rw [nI_clamp (by omega), hR.2.2.2.2.2.2.1 _ (by omega), pif_f hp3, e6]) ?_
      refine lv_iconst (v := (-1)) hx hb dX5_loadOn_16 (by decide) ?_
      refine lv_icmp_ne (tgt := 27) hx hb dX5_loadOn_17 (by decide) (fun _ => ?_) (fun c9 => absurd c9 (nI_m1 (by omega)))
      refine lv_iload_n hx hb dX5_loadOn_27 rfl (lv_at hl 2 rfl) ?_
      refine lv_iconst (v := 0) hx hb dX5_loadOn_28 (by decide) ?_
      refine lv_aload_n hx hb dX5_loadOn_29 rfl (lv_at hl 0 rfl) ?_
      refine fw_get (v := .ref (ad 6 0)) (C := RX5) (T := TX5) (N := 15) hx hb hts in5 hown hK hP (m_at0 hj) rfl 6 (by decide) (hts (.fieldLink RX5 25 "WagonSidingsModel" "rakeLong" "[I") (by decide +kernel)) (fun _ h9 => h9) rfl dX5_loadOn_30 ?_
      refine lv_iload_n hx hb dX5_loadOn_33 rfl (lv_at hl 1 rfl) ?_
      refine fw_iald hx hb hK hP 0 (m_at6 hj) rfl (vp_in_nI (by omega) (by decide)) dX5_loadOn_34 ?_
      refine W.eq (g2 := F0 m 35 ls [.int (nI c4), .int 0, .int a]) (by rw [nI_clamp (by omega), hR.2.2.2.2.2.2.1 _ (by omega), pif_f hp3, e6]) ?_
      refine lv_iconst (v := 1) hx hb dX5_loadOn_35 (by decide) ?_
      refine lv_isub hx hb dX5_loadOn_36 ?_
      refine fw_calli (va_runS (As := [.int a, .int 0, .int ((nI c4) - 1)]) (rest := []) ⟨hx, hb, hml, hown, hts⟩ (c_X5_in l D kk _ a 0 ((nI c4) - 1) _) (va_cwS 3 hts gX5_loadOn_X5_in rfl rfl rfl (by decide +kernel) ⟨Nat.le_of_ble_eq_true rfl, Nat.le_of_ble_eq_true rfl⟩) (fw_preS hK hP) rfl rfl hl.1 rfl (lv_room (Nat.le_of_ble_eq_true rfl)) dX5_loadOn_37 ⟨Nat.le_of_ble_eq_true rfl, Nat.le_of_ble_eq_true rfl⟩) hD hS hA (fun r w1 H locs hq hP hD hS => ?_)
      obtain ⟨rfl, rfl⟩ := hq
      refine W.eq (g2 := F0 m 40 ls [.int (b1 (fnd c4 a))]) (by rw [← b1_in (n := c4) (by omega)] <;> rfl) ?_
      rcases oc (fnd c4 a) with hf8 | ⟨i9, hf8⟩
      · refine W.eq (g2 := F0 m 40 ls [.int 0]) (by rw [hf8]; rfl) ?_
        refine lv_if_ne (tgt := 50) hx hb dX5_loadOn_40 (by decide) (fun c9 => absurd c9 (by decide)) (fun _ => ?_)
        refine lv_aload_n hx hb dX5_loadOn_43 rfl (lv_at hl 0 rfl) ?_
        refine lv_iconst (v := 3) hx hb dX5_loadOn_44 (by decide) ?_
        refine lv_iconst (v := 0) hx hb dX5_loadOn_45 (by decide) ?_
        refine fw_calli (va_runV (As := [.int 3, .int 0]) (rest := []) ⟨hx, hb, hml, hown, hts⟩ (c_X5_ends l D kk ad J hj 3 0 _) (cwV 2 hts gX5_loadOn_X5_ends rfl rfl rfl (by decide +kernel) ⟨Nat.le_of_ble_eq_true rfl, Nat.le_of_ble_eq_true rfl⟩) (fw_preV hK hP (ci := 5) rfl (m_at0 hj)) rfl rfl hl.1 rfl (lv_room (Nat.le_of_ble_eq_true rfl)) dX5_loadOn_46 ⟨Nat.le_of_ble_eq_true rfl, Nat.le_of_ble_eq_true rfl⟩) hD hS hA (fun r w1 H locs hq hP hD hS => ?_)
        obtain ⟨rfl, rfl⟩ := hq
        exact fw_iret hx hb hr hlocks hK hP hD hS dX5_loadOn_49 ⟨_, _, _, by simp only [sp_loadOn, hf1, pif_f hp3, pif_t (fc_no e6 (by omega) hf8)] <;> rfl, mR_tell hR, rfl⟩
      · refine W.eq (g2 := F0 m 40 ls [.int 1]) (by rw [hf8]; rfl) ?_
        obtain ⟨hi9, rfl⟩ := fnd_lt hf8
        refine lv_if_ne (tgt := 50) hx hb dX5_loadOn_40 (by decide) (fun _ => ?_) (fun c9 => absurd c9 (by decide))
        refine lv_aload_n hx hb dX5_loadOn_50 rfl (lv_at hl 0 rfl) ?_
        refine fw_get (v := .ref (ad 8 0)) (C := RX5) (T := TX5) (N := 15) hx hb hts in5 hown hK hP (m_at0 hj) rfl 8 (by decide) (hts (.fieldLink RX5 31 "WagonSidingsModel" "rake" "[I") (by decide +kernel)) (fun _ h9 => h9) rfl dX5_loadOn_51 ?_
        refine lv_bipush (v := 12) hx hb dX5_loadOn_54 (by decide) ?_
        refine lv_iload_n hx hb dX5_loadOn_56 rfl (lv_at hl 1 rfl) ?_
        refine lv_imul hx hb dX5_loadOn_57 ?_
        refine W.eq (g2 := F0 m 58 ls [.int (nI (12 * i2)), .ref (ad 8 0)]) (by rw [show (12 : Int32) = nI 12 from rfl, pk_mul]) ?_
        refine lv_iload_n hx hb dX5_loadOn_58 rfl (lv_at hl 2 rfl) ?_
        refine lv_iadd hx hb dX5_loadOn_59 ?_
        refine W.eq (g2 := F0 m 60 ls [.int (nI (12 * i2 + i9)), .ref (ad 8 0)]) (by rw [nI_add]) ?_
        refine fw_iald hx hb hK hP 0 (m_at8 hj) rfl (vp_in_nI (by omega) (by decide)) dX5_loadOn_60 ?_
        rcases oc (O (2 + i2) i9) with ho10 | ⟨j11, ho10⟩
        · refine W.eq (g2 := F0 m 61 ls [.int (-1)]) (by rw [nI_clamp (by omega), hR.2.2.2.2.2.2.2.2.1 i2 i9 (by omega) (by omega) hp3 (by rw [e6]; exact nI_lt (by omega) (by omega)), ho10]; rfl) ?_
          refine lv_istore_n (lv' := [(3, .int (-1)), (0, .ref (ad 0 0)), (1, .int (nI i2)), (2, .int (nI i9))]) hx hb dX5_loadOn_61 rfl hl (by decide) rfl (fun ls hl => ?_)
          refine lv_iload_n hx hb dX5_loadOn_62 rfl (lv_at hl 0 rfl) ?_
          refine lv_iconst (v := (-1)) hx hb dX5_loadOn_63 (by decide) ?_
          refine lv_icmp_ne (tgt := 76) hx hb dX5_loadOn_64 (by decide) (fun c9 => absurd rfl c9) (fun _ => ?_)
          refine lv_aload_n hx hb dX5_loadOn_67 rfl (lv_at hl 1 rfl) ?_
          refine lv_iconst (v := 1) hx hb dX5_loadOn_68 (by decide) ?_
          refine lv_iconst (v := 0) hx hb dX5_loadOn_69 (by decide) ?_
          refine fw_calli (va_runV (As := [.int 1, .int 0]) (rest := []) ⟨hx, hb, hml, hown, hts⟩ (c_X5_ends l D kk ad J hj 1 0 _) (cwV 2 hts gX5_loadOn_X5_ends rfl rfl rfl (by decide +kernel) ⟨Nat.le_of_ble_eq_true rfl, Nat.le_of_ble_eq_true rfl⟩) (fw_preV hK hP (ci := 5) rfl (m_at0 hj)) rfl rfl hl.1 rfl (lv_room (Nat.le_of_ble_eq_true rfl)) dX5_loadOn_70 ⟨Nat.le_of_ble_eq_true rfl, Nat.le_of_ble_eq_true rfl⟩) hD hS hA (fun r w1 H locs hq hP hD hS => ?_)
          obtain ⟨rfl, rfl⟩ := hq
          refine lv_goto (tgt := 87) hx hb dX5_loadOn_73 (by decide) ?_
          exact fw_iret hx hb hr hlocks hK hP hD hS dX5_loadOn_87 ⟨_, _, _, by simp only [sp_loadOn, hf1, pif_f hp3, pif_f (fc_yes e6 hi9 (by omega)), nI_clamp (show i9 < 2 ^ 31 by omega), ho10] <;> rfl, mR_tell hR, rfl⟩
        · have hj11 := hY.1.2.1 _ _ _ ho10
          refine W.eq (g2 := F0 m 61 ls [.int (nI j11)]) (by rw [nI_clamp (by omega), hR.2.2.2.2.2.2.2.2.1 i2 i9 (by omega) (by omega) hp3 (by rw [e6]; exact nI_lt (by omega) (by omega)), ho10]; rfl) ?_
          refine lv_istore_n (lv' := [(3, .int (nI j11)), (0, .ref (ad 0 0)), (1, .int (nI i2)), (2, .int (nI i9))]) hx hb dX5_loadOn_61 rfl hl (by decide) rfl (fun ls hl => ?_)
          refine lv_iload_n hx hb dX5_loadOn_62 rfl (lv_at hl 0 rfl) ?_
          refine lv_iconst (v := (-1)) hx hb dX5_loadOn_63 (by decide) ?_
          refine lv_icmp_ne (tgt := 76) hx hb dX5_loadOn_64 (by decide) (fun _ => ?_) (fun c9 => absurd c9 (nI_m1 (by omega)))
          refine lv_aload_n hx hb dX5_loadOn_76 rfl (lv_at hl 1 rfl) ?_
          refine lv_aload_n hx hb dX5_loadOn_77 rfl (lv_at hl 1 rfl) ?_
          refine fw_get (v := .ref (ad 2 0)) (C := RX5) (T := TX5) (N := 15) hx hb hts in5 hown hK hP (m_at0 hj) rfl 2 (by decide) (hts (.fieldLink RX5 13 "WagonSidingsModel" "load" "[I") (by decide +kernel)) (fun _ h9 => h9) rfl dX5_loadOn_78 ?_
          refine lv_iload_n hx hb dX5_loadOn_81 rfl (lv_at hl 0 rfl) ?_
          refine fw_iald hx hb hK hP 0 (m_at2 hj) rfl (vp_in_nI (by omega) (by decide)) dX5_loadOn_82 ?_
          refine W.eq (g2 := F0 m 83 ls [.int (I 1 j11), .ref (ad 0 0)]) (by rw [nI_clamp (by omega), hR.2.2.1 _ (by omega)]) ?_
          refine lv_iconst (v := 0) hx hb dX5_loadOn_83 (by decide) ?_
          refine fw_calli (va_runV (As := [.int (I 1 j11), .int 0]) (rest := []) ⟨hx, hb, hml, hown, hts⟩ (c_X5_well l D kk ad J hj (I 1 j11) 0 _) (cwV 2 hts gX5_loadOn_X5_well rfl rfl rfl (by decide +kernel) ⟨Nat.le_of_ble_eq_true rfl, Nat.le_of_ble_eq_true rfl⟩) (fw_preV hK hP (ci := 5) rfl (m_at0 hj)) rfl rfl hl.1 rfl (lv_room (Nat.le_of_ble_eq_true rfl)) dX5_loadOn_84 ⟨Nat.le_of_ble_eq_true rfl, Nat.le_of_ble_eq_true rfl⟩) hD hS hA (fun r w1 H locs hq hP hD hS => ?_)
          obtain ⟨rfl, rfl⟩ := hq
          exact fw_iret hx hb hr hlocks hK hP hD hS dX5_loadOn_87 ⟨_, _, _, by simp only [sp_loadOn, hf1, pif_f hp3, pif_f (fc_yes e6 hi9 (by omega)), nI_clamp (show i9 < 2 ^ 31 by omega), ho10] <;> rfl, mR_tell hR, rfl⟩

set_option maxHeartbeats 4000000 in
set_option maxRecDepth 100000 in
theorem c_X5_onRake (l : Launch) (D : va_G) (kk : Nat → ClassId) (ad : Nat → Nat → Nat) (n : Nat) (I : sI) (O : sO) (J : sI) (hj : sj mV ad) (hY : yI n I O) (hR : mR n I O J) (r0 a : Int32) : fw_Mi l yX5_onRake wsX5_onRake { frames := 2, cells := 0, slots := 0, locals := 42 } 0 0 D vwCl (xT kk) (mw kk ad J) [.ref (ad 0 0), .int r0, .int a] (fun r w1 => sp_onRake I O r0 a = r ∧ w1 = mw kk ad J) := by
  refine fw_ofi (cc := cX5_onRake) (maxL := 3) (ret := (some .int)) (by decide) rfl (Nat.le_of_ble_eq_true rfl) ?_
  intro p e s m args below meth c A ls hx hb hml hr hlocks hnm hts hown hK hP hD hA hS hl
  have hown : s.vm.findClass RX5 = some m.cls := hown
  have hl : lv_has ls 3 [(0, .ref (ad 0 0)), (1, .int r0), (2, .int a)] := hl
  have in5 : ∀ w ∈ u_ws RX5 TX5 15, w ∈ wsX5_onRake := by decide +kernel
  have hn40 := hY.1.1
  refine lv_iload_n hx hb dX5_onRake_0 rfl (lv_at hl 1 rfl) ?_
  refine fw_calli (va_runS (As := [.int r0]) (rest := []) ⟨hx, hb, hml, hown, hts⟩ (c_X5_isRake l D kk _ r0 _) (va_cwS 1 hts gX5_onRake_X5_isRake rfl rfl rfl (by decide +kernel) ⟨Nat.le_of_ble_eq_true rfl, Nat.le_of_ble_eq_true rfl⟩) (fw_preS hK hP) rfl rfl hl.1 rfl (lv_room (Nat.le_of_ble_eq_true rfl)) dX5_onRake_1 ⟨Nat.le_of_ble_eq_true rfl, Nat.le_of_ble_eq_true rfl⟩) hD hS hA (fun r w1 H locs hq hP hD hS => ?_)
  obtain ⟨rfl, rfl⟩ := hq
  rcases oc (fnd 4 r0) with hf1 | ⟨i2, hf1⟩
  · refine W.eq (g2 := F0 m 4 ls [.int 0]) (by rw [hf1]; rfl) ?_
    refine lv_if_ne (tgt := 10) hx hb dX5_onRake_4 (by decide) (fun c9 => absurd c9 (by decide)) (fun _ => ?_)
    refine lv_bipush (v := (-101)) hx hb dX5_onRake_7 (by decide) ?_
    exact fw_iret hx hb hr hlocks hK hP hD hS dX5_onRake_9 ⟨by simp [sp_onRake, hf1], rfl⟩
  · refine W.eq (g2 := F0 m 4 ls [.int 1]) (by rw [hf1]; rfl) ?_
    obtain ⟨hi2, rfl⟩ := fnd_lt hf1
    refine lv_if_ne (tgt := 10) hx hb dX5_onRake_4 (by decide) (fun _ => ?_) (fun c9 => absurd c9 (by decide))
    refine lv_iload_n hx hb dX5_onRake_10 rfl (lv_at hl 2 rfl) ?_
    refine lv_iconst (v := 0) hx hb dX5_onRake_11 (by decide) ?_
    refine lv_aload_n hx hb dX5_onRake_12 rfl (lv_at hl 0 rfl) ?_
    refine fw_get (v := .ref (ad 6 0)) (C := RX5) (T := TX5) (N := 15) hx hb hts in5 hown hK hP (m_at0 hj) rfl 6 (by decide) (hts (.fieldLink RX5 25 "WagonSidingsModel" "rakeLong" "[I") (by decide +kernel)) (fun _ h9 => h9) rfl dX5_onRake_13 ?_
    refine lv_iload_n hx hb dX5_onRake_16 rfl (lv_at hl 1 rfl) ?_
    refine fw_iald hx hb hK hP 0 (m_at6 hj) rfl (vp_in_nI (by omega) (by decide)) dX5_onRake_17 ?_
    by_cases hp3 : I 5 i2 = 0
    · refine W.eq (g2 := F0 m 18 ls [.int (-1), .int 0, .int a]) (by rw [nI_clamp (by omega), hR.2.2.2.2.2.2.1 _ (by omega), pif_t hp3]) ?_
      refine lv_iconst (v := 1) hx hb dX5_onRake_18 (by decide) ?_
      refine lv_isub hx hb dX5_onRake_19 ?_
      refine fw_calli (va_runS (As := [.int a, .int 0, .int ((-1) - 1)]) (rest := []) ⟨hx, hb, hml, hown, hts⟩ (c_X5_in l D kk _ a 0 ((-1) - 1) _) (va_cwS 3 hts gX5_onRake_X5_in rfl rfl rfl (by decide +kernel) ⟨Nat.le_of_ble_eq_true rfl, Nat.le_of_ble_eq_true rfl⟩) (fw_preS hK hP) rfl rfl hl.1 rfl (lv_room (Nat.le_of_ble_eq_true rfl)) dX5_onRake_20 ⟨Nat.le_of_ble_eq_true rfl, Nat.le_of_ble_eq_true rfl⟩) hD hS hA (fun r w1 H locs hq hP hD hS => ?_)
      obtain ⟨rfl, rfl⟩ := hq
      refine W.eq (g2 := F0 m 23 ls [.int 0]) (by rw [pif_f (in_m2 a)]) ?_
      refine lv_if_eq (tgt := 40) hx hb dX5_onRake_23 (by decide) (fun _ => ?_) (fun c9 => absurd c9 (by decide))
      refine lv_iconst (v := (-1)) hx hb dX5_onRake_40 (by decide) ?_
      exact fw_iret hx hb hr hlocks hK hP hD hS dX5_onRake_41 ⟨by simp only [sp_onRake, hf1]; exact pif_t (Or.inl hp3), rfl⟩
    · obtain ⟨c4, hc4, e6⟩ := hY.2.2.2.2.2.2.1 _ hp3
      refine W.eq (g2 := F0 m 18 ls [.int (nI c4), .int 0, .int a]) (by rw [nI_clamp (by omega), hR.2.2.2.2.2.2.1 _ (by omega), pif_f hp3, e6]) ?_
      refine lv_iconst (v := 1) hx hb dX5_onRake_18 (by decide) ?_
      refine lv_isub hx hb dX5_onRake_19 ?_
      refine fw_calli (va_runS (As := [.int a, .int 0, .int ((nI c4) - 1)]) (rest := []) ⟨hx, hb, hml, hown, hts⟩ (c_X5_in l D kk _ a 0 ((nI c4) - 1) _) (va_cwS 3 hts gX5_onRake_X5_in rfl rfl rfl (by decide +kernel) ⟨Nat.le_of_ble_eq_true rfl, Nat.le_of_ble_eq_true rfl⟩) (fw_preS hK hP) rfl rfl hl.1 rfl (lv_room (Nat.le_of_ble_eq_true rfl)) dX5_onRake_20 ⟨Nat.le_of_ble_eq_true rfl, Nat.le_of_ble_eq_true rfl⟩) hD hS hA (fun r w1 H locs hq hP hD hS => ?_)
      obtain ⟨rfl, rfl⟩ := hq
      refine W.eq (g2 := F0 m 23 ls [.int (b1 (fnd c4 a))]) (by rw [← b1_in (n := c4) (by omega)] <;> rfl) ?_
      rcases oc (fnd c4 a) with hf8 | ⟨i9, hf8⟩
      · refine W.eq (g2 := F0 m 23 ls [.int 0]) (by rw [hf8]; rfl) ?_
        refine lv_if_eq (tgt := 40) hx hb dX5_onRake_23 (by decide) (fun _ => ?_) (fun c9 => absurd c9 (by decide))
        refine lv_iconst (v := (-1)) hx hb dX5_onRake_40 (by decide) ?_
        exact fw_iret hx hb hr hlocks hK hP hD hS dX5_onRake_41 ⟨by simp only [sp_onRake, hf1]; exact pif_t (Or.inr (fc_no e6 (by omega) hf8)), rfl⟩
      · refine W.eq (g2 := F0 m 23 ls [.int 1]) (by rw [hf8]; rfl) ?_
        obtain ⟨hi9, rfl⟩ := fnd_lt hf8
        refine lv_if_eq (tgt := 40) hx hb dX5_onRake_23 (by decide) (fun c9 => absurd c9 (by decide)) (fun _ => ?_)
        refine lv_aload_n hx hb dX5_onRake_26 rfl (lv_at hl 0 rfl) ?_
        refine fw_get (v := .ref (ad 8 0)) (C := RX5) (T := TX5) (N := 15) hx hb hts in5 hown hK hP (m_at0 hj) rfl 8 (by decide) (hts (.fieldLink RX5 31 "WagonSidingsModel" "rake" "[I") (by decide +kernel)) (fun _ h9 => h9) rfl dX5_onRake_27 ?_
        refine lv_bipush (v := 12) hx hb dX5_onRake_30 (by decide) ?_
        refine lv_iload_n hx hb dX5_onRake_32 rfl (lv_at hl 1 rfl) ?_
        refine lv_imul hx hb dX5_onRake_33 ?_
        refine W.eq (g2 := F0 m 34 ls [.int (nI (12 * i2)), .ref (ad 8 0)]) (by rw [show (12 : Int32) = nI 12 from rfl, pk_mul]) ?_
        refine lv_iload_n hx hb dX5_onRake_34 rfl (lv_at hl 2 rfl) ?_
        refine lv_iadd hx hb dX5_onRake_35 ?_
        refine W.eq (g2 := F0 m 36 ls [.int (nI (12 * i2 + i9)), .ref (ad 8 0)]) (by rw [nI_add]) ?_
        refine fw_iald hx hb hK hP 0 (m_at8 hj) rfl (vp_in_nI (by omega) (by decide)) dX5_onRake_36 ?_
        rcases oc (O (2 + i2) i9) with ho10 | ⟨j11, ho10⟩
        · refine W.eq (g2 := F0 m 37 ls [.int (-1)]) (by rw [nI_clamp (by omega), hR.2.2.2.2.2.2.2.2.1 i2 i9 (by omega) (by omega) hp3 (by rw [e6]; exact nI_lt (by omega) (by omega)), ho10]; rfl) ?_
          refine lv_goto (tgt := 41) hx hb dX5_onRake_37 (by decide) ?_
          exact fw_iret hx hb hr hlocks hK hP hD hS dX5_onRake_41 ⟨by simp only [sp_onRake, hf1, pif_f (show ¬ (I 5 _ = 0 ∨ nI i9 < 0 ∨ ¬ nI i9 < I 7 _) from fun z => z.elim hp3 (fc_yes e6 hi9 (by omega))), nI_clamp (show i9 < 2 ^ 31 by omega), ho10] <;> rfl, rfl⟩
        · have hj11 := hY.1.2.1 _ _ _ ho10
          refine W.eq (g2 := F0 m 37 ls [.int (nI j11)]) (by rw [nI_clamp (by omega), hR.2.2.2.2.2.2.2.2.1 i2 i9 (by omega) (by omega) hp3 (by rw [e6]; exact nI_lt (by omega) (by omega)), ho10]; rfl) ?_
          refine lv_goto (tgt := 41) hx hb dX5_onRake_37 (by decide) ?_
          exact fw_iret hx hb hr hlocks hK hP hD hS dX5_onRake_41 ⟨by simp only [sp_onRake, hf1, pif_f (show ¬ (I 5 _ = 0 ∨ nI i9 < 0 ∨ ¬ nI i9 < I 7 _) from fun z => z.elim hp3 (fc_yes e6 hi9 (by omega))), nI_clamp (show i9 < 2 ^ 31 by omega), ho10] <;> rfl, rfl⟩

set_option maxHeartbeats 4000000 in
set_option maxRecDepth 100000 in
theorem c_X5_about (l : Launch) (D : va_G) (kk : Nat → ClassId) (ad : Nat → Nat → Nat) (n : Nat) (I : sI) (O : sO) (J : sI) (hj : sj mV ad) (hY : yI n I O) (hR : mR n I O J) (a q : Int32) : fw_Mi l yX5_about wsX5_about { frames := 2, cells := 0, slots := 0, locals := 43 } 0 0 D vwCl (xT kk) (mw kk ad J) [.ref (ad 0 0), .int a, .int q] (fun r w1 => sp_about n I O a q = r ∧ w1 = mw kk ad J) := by
  refine fw_ofi (cc := cX5_about) (maxL := 3) (ret := (some .int)) (by decide) rfl (Nat.le_of_ble_eq_true rfl) ?_
  intro p e s m args below meth c A ls hx hb hml hr hlocks hnm hts hown hK hP hD hA hS hl
  have hown : s.vm.findClass RX5 = some m.cls := hown
  have hl : lv_has ls 3 [(0, .ref (ad 0 0)), (1, .int a), (2, .int q)] := hl
  have in5 : ∀ w ∈ u_ws RX5 TX5 15, w ∈ wsX5_about := by decide +kernel
  have hn40 := hY.1.1
  refine lv_aload_n hx hb dX5_about_0 rfl (lv_at hl 0 rfl) ?_
  refine lv_iload_n hx hb dX5_about_1 rfl (lv_at hl 1 rfl) ?_
  refine fw_calli (va_runV (As := [.int a]) (rest := []) ⟨hx, hb, hml, hown, hts⟩ (c_X5_isWagon l D kk ad n I O J hj hY hR a _) (cwV 1 hts gX5_about_X5_isWagon rfl rfl rfl (by decide +kernel) ⟨Nat.le_of_ble_eq_true rfl, Nat.le_of_ble_eq_true rfl⟩) (fw_preV hK hP (ci := 5) rfl (m_at0 hj)) rfl rfl hl.1 rfl (lv_room (Nat.le_of_ble_eq_true rfl)) dX5_about_2 ⟨Nat.le_of_ble_eq_true rfl, Nat.le_of_ble_eq_true rfl⟩) hD hS hA (fun r w1 H locs hq hP hD hS => ?_)
  obtain ⟨rfl, rfl⟩ := hq
  rcases oc (fnd n a) with hf1 | ⟨i2, hf1⟩
  · refine W.eq (g2 := F0 m 5 ls [.int 0]) (by rw [hf1]; rfl) ?_
    refine lv_if_eq (tgt := 17) hx hb dX5_about_5 (by decide) (fun _ => ?_) (fun c9 => absurd c9 (by decide))
    refine lv_bipush (v := (-101)) hx hb dX5_about_17 (by decide) ?_
    exact fw_iret hx hb hr hlocks hK hP hD hS dX5_about_19 ⟨by simp [sp_about, hf1], rfl⟩
  · refine W.eq (g2 := F0 m 5 ls [.int 1]) (by rw [hf1]; rfl) ?_
    obtain ⟨hi2, rfl⟩ := fnd_lt hf1
    refine lv_if_eq (tgt := 17) hx hb dX5_about_5 (by decide) (fun c9 => absurd c9 (by decide)) (fun _ => ?_)
    refine lv_iload_n hx hb dX5_about_8 rfl (lv_at hl 2 rfl) ?_
    refine lv_iconst (v := 0) hx hb dX5_about_9 (by decide) ?_
    refine lv_iconst (v := 3) hx hb dX5_about_10 (by decide) ?_
    refine fw_calli (va_runS (As := [.int q, .int 0, .int 3]) (rest := []) ⟨hx, hb, hml, hown, hts⟩ (c_X5_in l D kk _ q 0 3 _) (va_cwS 3 hts gX5_about_X5_in rfl rfl rfl (by decide +kernel) ⟨Nat.le_of_ble_eq_true rfl, Nat.le_of_ble_eq_true rfl⟩) (fw_preS hK hP) rfl rfl hl.1 rfl (lv_room (Nat.le_of_ble_eq_true rfl)) dX5_about_11 ⟨Nat.le_of_ble_eq_true rfl, Nat.le_of_ble_eq_true rfl⟩) hD hS hA (fun r w1 H locs hq hP hD hS => ?_)
    obtain ⟨rfl, rfl⟩ := hq
    by_cases hb3 : (¬ q < 0 ∧ ¬ 3 < q)
    · rw [pif_t hb3]
      refine lv_if_ne (tgt := 20) hx hb dX5_about_14 (by decide) (fun _ => ?_) (fun c9 => absurd c9 (by decide))
      refine lv_iload_n hx hb dX5_about_20 rfl (lv_at hl 2 rfl) ?_
      refine lv_if_ne (tgt := 33) hx hb dX5_about_21 (by decide) (fun c_21 => ?_) (fun c_21 => ?_)
      · refine lv_iload_n hx hb dX5_about_33 rfl (lv_at hl 2 rfl) ?_
        refine lv_iconst (v := 1) hx hb dX5_about_34 (by decide) ?_
        refine lv_icmp_ne (tgt := 47) hx hb dX5_about_35 (by decide) (fun c_35 => ?_) (fun c_35 => ?_)
        · refine lv_iload_n hx hb dX5_about_47 rfl (lv_at hl 2 rfl) ?_
          refine lv_iconst (v := 2) hx hb dX5_about_48 (by decide) ?_
          refine lv_icmp_ne (tgt := 61) hx hb dX5_about_49 (by decide) (fun c_49 => ?_) (fun c_49 => ?_)
          · refine lv_aload_n hx hb dX5_about_61 rfl (lv_at hl 0 rfl) ?_
            refine lv_iload_n hx hb dX5_about_62 rfl (lv_at hl 1 rfl) ?_
            refine fw_calli (va_runV (As := [.int (nI i2)]) (rest := []) ⟨hx, hb, hml, hown, hts⟩ (c_X5_trackOf l D kk ad n I O J hj hY hR i2 (by omega) _) (cwV 1 hts gX5_about_X5_trackOf rfl rfl rfl (by decide +kernel) ⟨Nat.le_of_ble_eq_true rfl, Nat.le_of_ble_eq_true rfl⟩) (fw_preV hK hP (ci := 5) rfl (m_at0 hj)) rfl rfl hl.1 rfl (lv_room (Nat.le_of_ble_eq_true rfl)) dX5_about_63 ⟨Nat.le_of_ble_eq_true rfl, Nat.le_of_ble_eq_true rfl⟩) hD hS hA (fun r w1 H locs hq hP hD hS => ?_)
            obtain ⟨rfl, rfl⟩ := hq
            exact fw_iret hx hb hr hlocks hK hP hD hS dX5_about_66 ⟨by simp [sp_about, hf1, (((kd4 hb3).resolve_left c_21).resolve_left c_35).resolve_left c_49], rfl⟩
          · refine lv_aload_n hx hb dX5_about_52 rfl (lv_at hl 0 rfl) ?_
            refine fw_get (v := .ref (ad 3 0)) (C := RX5) (T := TX5) (N := 15) hx hb hts in5 hown hK hP (m_at0 hj) rfl 3 (by decide) (hts (.fieldLink RX5 16 "WagonSidingsModel" "behind" "[I") (by decide +kernel)) (fun _ h9 => h9) rfl dX5_about_53 ?_
            refine lv_iload_n hx hb dX5_about_56 rfl (lv_at hl 1 rfl) ?_
            refine fw_iald hx hb hK hP 0 (m_at3 hj) rfl (vp_in_nI (by omega) (by decide)) dX5_about_57 ?_
            rcases oc (O 0 i2) with ho4 | ⟨j5, ho4⟩
            · refine W.eq (g2 := F0 m 58 ls [.int (-1)]) (by rw [nI_clamp (by omega), hR.2.2.2.1 _ (by omega), ho4]; rfl) ?_
              refine lv_goto (tgt := 66) hx hb dX5_about_58 (by decide) ?_
              exact fw_iret hx hb hr hlocks hK hP hD hS dX5_about_66 ⟨by simp [sp_about, hf1, c_21, c_35, eq_true c_49, ho4, num], rfl⟩
            · have hj5 := hY.1.2.1 _ _ _ ho4
              refine W.eq (g2 := F0 m 58 ls [.int (nI j5)]) (by rw [nI_clamp (by omega), hR.2.2.2.1 _ (by omega), ho4]; rfl) ?_
              refine lv_goto (tgt := 66) hx hb dX5_about_58 (by decide) ?_
              exact fw_iret hx hb hr hlocks hK hP hD hS dX5_about_66 ⟨by simp [sp_about, hf1, c_21, c_35, eq_true c_49, ho4, num], rfl⟩
        · refine lv_aload_n hx hb dX5_about_38 rfl (lv_at hl 0 rfl) ?_
          refine fw_get (v := .ref (ad 2 0)) (C := RX5) (T := TX5) (N := 15) hx hb hts in5 hown hK hP (m_at0 hj) rfl 2 (by decide) (hts (.fieldLink RX5 13 "WagonSidingsModel" "load" "[I") (by decide +kernel)) (fun _ h9 => h9) rfl dX5_about_39 ?_
          refine lv_iload_n hx hb dX5_about_42 rfl (lv_at hl 1 rfl) ?_
          refine fw_iald hx hb hK hP 0 (m_at2 hj) rfl (vp_in_nI (by omega) (by decide)) dX5_about_43 ?_
          refine W.eq (g2 := F0 m 44 ls [.int (I 1 i2)]) (by rw [nI_clamp (by omega), hR.2.2.1 _ (by omega)]) ?_
          refine lv_goto (tgt := 66) hx hb dX5_about_44 (by decide) ?_
          exact fw_iret hx hb hr hlocks hK hP hD hS dX5_about_66 ⟨by simp [sp_about, hf1, c_21, eq_true c_35, num], rfl⟩
      · refine lv_aload_n hx hb dX5_about_24 rfl (lv_at hl 0 rfl) ?_
        refine fw_get (v := .ref (ad 1 0)) (C := RX5) (T := TX5) (N := 15) hx hb hts in5 hown hK hP (m_at0 hj) rfl 1 (by decide) (hts (.fieldLink RX5 7 "WagonSidingsModel" "kind" "[I") (by decide +kernel)) (fun _ h9 => h9) rfl dX5_about_25 ?_
        refine lv_iload_n hx hb dX5_about_28 rfl (lv_at hl 1 rfl) ?_
        refine fw_iald hx hb hK hP 0 (m_at1 hj) rfl (vp_in_nI (by omega) (by decide)) dX5_about_29 ?_
        refine W.eq (g2 := F0 m 30 ls [.int (I 0 i2)]) (by rw [nI_clamp (by omega), hR.2.1 _ (by omega)]) ?_
        refine lv_goto (tgt := 66) hx hb dX5_about_30 (by decide) ?_
        exact fw_iret hx hb hr hlocks hK hP hD hS dX5_about_66 ⟨by simp [sp_about, hf1, eq_true c_21, num], rfl⟩
    · rw [pif_f hb3]
      refine lv_if_ne (tgt := 20) hx hb dX5_about_14 (by decide) (fun c9 => absurd c9 (by decide)) (fun _ => ?_)
      refine lv_bipush (v := (-101)) hx hb dX5_about_17 (by decide) ?_
      exact fw_iret hx hb hr hlocks hK hP hD hS dX5_about_19 ⟨by rw [sp_about, hf1]; dsimp only; rw [if_neg (fun z => hb3 (by subst z; decide)), if_neg (fun z => hb3 (by subst z; decide)), if_neg (fun z => hb3 (by subst z; decide)), if_neg (fun z => hb3 (by subst z; decide))], rfl⟩

theorem mR_wagon {n : Nat} {I : sI} {O : sO} {J : sI} {k v : Int32} (h : mR n I O J) (hx : xI n O) : mR (n + 1) (wI I n k v) (upO O 0 n none) (upI (upI (upI (upI J 1 n k) 2 n v) 3 n (-1)) 0 0 (nI (n + 1))) := by
  obtain ⟨g0, g1, g2, g3, g4, g5, g6, g7, g8, g9, g10, g11, g12, g13, g14⟩ := h
  have hJ : ∀ a x, 4 ≤ a → upI (upI (upI (upI J 1 n k) 2 n v) 3 n (-1)) 0 0 (nI (n + 1)) a x = J a x := fun a x q => by rw [upI_n (by omega), upI_n (by omega), upI_n (by omega), upI_n (by omega)]
  have hI : ∀ a x, 4 ≤ a → wI I n k v a x = I a x := fun a x q => wI_ne (by omega)
  have hO : ∀ a x, 1 ≤ a → upO O 0 n none a x = O a x := fun a x q => upO_n (by omega)
  refine ⟨upI_s _ _ _ _, fun i hi => ?_, fun i hi => ?_, fun i hi => ?_, fun t ht => by rw [hJ 4 _ (by omega), hO 1 _ (by omega)]; exact g4 t ht, fun t ht => by rw [hJ 5 _ (by omega), hI 4 _ (by omega)]; exact g5 t ht, fun r hr => by rw [hJ 6 _ (by omega), hI 5 _ (by omega), hI 7 _ (by omega)]; exact g6 r hr, fun r hr => by rw [hJ 7 _ (by omega), hI 6 _ (by omega)]; exact g7 r hr, fun r i hr hi h5 h7 => by rw [hI 5 _ (by omega)] at h5; rw [hI 7 _ (by omega)] at h7; rw [hJ 8 _ (by omega), hO (2 + r) _ (by omega)]; exact g8 r i hr hi h5 h7, fun t ht => by rw [hJ 9 _ (by omega), hI 8 _ (by omega), hI 9 _ (by omega)]; exact g9 t ht, fun t ht => by rw [hJ 10 _ (by omega), hI 10 _ (by omega)]; exact g10 t ht, fun t c ht hc => by rw [hJ 11 _ (by omega), hI (20 + t) _ (by omega)]; exact g11 t c ht hc, by rw [hJ 12 _ (by omega), hI 11 _ (by omega)]; exact g12, by rw [hJ 13 _ (by omega), hI 11 _ (by omega)]; exact g13, by rw [hJ 14 _ (by omega), hI 11 _ (by omega)]; exact g14⟩
  · by_cases z : i = n
    · subst z; simp [upI, wI]
    · rw [upI_n (by omega), upI_n (by omega), upI_n (by omega), upI_n (by omega), wI_ne (by omega)]; exact g1 i (by omega)
  · by_cases z : i = n
    · subst z; simp [upI, wI]
    · rw [upI_n (by omega), upI_n (by omega), upI_n (by omega), upI_n (by omega), wI_ne (by omega)]; exact g2 i (by omega)
  · by_cases z : i = n
    · subst z; rw [upO_s, upI_n (by omega), upI_s]; rfl
    · rw [upI_n (by omega), upI_n (by omega), upI_n (by omega), upI_n (by omega), upO_n (by omega)]; exact g3 i (by omega)

set_option maxHeartbeats 4000000 in
set_option maxRecDepth 100000 in
theorem c_X5_wagon (l : Launch) (D : va_G) (kk : Nat → ClassId) (ad : Nat → Nat → Nat) (n : Nat) (I : sI) (O : sO) (J : sI) (hj : sj mV ad) (hY : yI n I O) (hR : mR n I O J) (k v : Int32) : fw_Mi l yX5_wagon wsX5_wagon { frames := 2, cells := 0, slots := 0, locals := 42 } 0 0 D vwCl (xT kk) (mw kk ad J) [.ref (ad 0 0), .int k, .int v] (fun r w1 => ∃ n1 I1 O1 J1, sp_wagon n I O k v = (r, n1, I1, O1) ∧ mR n1 I1 O1 J1 ∧ w1 = mw kk ad J1) := by
  refine fw_ofi (cc := cX5_wagon) (maxL := 3) (ret := (some .int)) (by decide) rfl (Nat.le_of_ble_eq_true rfl) ?_
  intro p e s m args below meth c A ls hx hb hml hr hlocks hnm hts hown hK hP hD hA hS hl
  have hown : s.vm.findClass RX5 = some m.cls := hown
  have hl : lv_has ls 3 [(0, .ref (ad 0 0)), (1, .int k), (2, .int v)] := hl
  have in5 : ∀ w ∈ u_ws RX5 TX5 15, w ∈ wsX5_wagon := by decide +kernel
  have hn40 := hY.1.1
  refine lv_iload_n hx hb dX5_wagon_0 rfl (lv_at hl 1 rfl) ?_
  refine fw_calli (va_runS (As := [.int k]) (rest := []) ⟨hx, hb, hml, hown, hts⟩ (c_X5_isKind l D kk _ k _) (va_cwS 1 hts gX5_wagon_X5_isKind rfl rfl rfl (by decide +kernel) ⟨Nat.le_of_ble_eq_true rfl, Nat.le_of_ble_eq_true rfl⟩) (fw_preS hK hP) rfl rfl hl.1 rfl (lv_room (Nat.le_of_ble_eq_true rfl)) dX5_wagon_1 ⟨Nat.le_of_ble_eq_true rfl, Nat.le_of_ble_eq_true rfl⟩) hD hS hA (fun r w1 H locs hq hP hD hS => ?_)
  obtain ⟨rfl, rfl⟩ := hq
  by_cases hb1 : isKd k
  · rw [pif_t hb1]
    refine lv_if_ne (tgt := 10) hx hb dX5_wagon_4 (by decide) (fun _ => ?_) (fun c9 => absurd c9 (by decide))
    refine lv_aload_n hx hb dX5_wagon_10 rfl (lv_at hl 0 rfl) ?_
    refine fw_get (v := .int (J 0 0)) (C := RX5) (T := TX5) (N := 15) hx hb hts in5 hown hK hP (m_at0 hj) rfl 0 (by decide) (hts (.fieldLink RX5 43 "WagonSidingsModel" "wagons" "I") (by decide +kernel)) (fun _ h9 => h9) rfl dX5_wagon_11 ?_
    refine W.eq (g2 := F0 m 14 ls [.int (nI n)]) (by rw [hR.1]) ?_
    refine lv_bipush (v := 40) hx hb dX5_wagon_14 (by decide) ?_
    refine lv_icmp_ne (tgt := 22) hx hb dX5_wagon_16 (by decide) (fun c_16 => ?_) (fun c_16 => ?_)
    · have hn : n < 40 := by
        rcases Nat.lt_or_ge n 40 with z | z
        · exact z
        · exact absurd (by rw [show n = 40 by omega]; rfl) c_16
      refine lv_aload_n hx hb dX5_wagon_22 rfl (lv_at hl 0 rfl) ?_
      refine fw_get (v := .ref (ad 1 0)) (C := RX5) (T := TX5) (N := 15) hx hb hts in5 hown hK hP (m_at0 hj) rfl 1 (by decide) (hts (.fieldLink RX5 7 "WagonSidingsModel" "kind" "[I") (by decide +kernel)) (fun _ h9 => h9) rfl dX5_wagon_23 ?_
      refine lv_aload_n hx hb dX5_wagon_26 rfl (lv_at hl 0 rfl) ?_
      refine fw_get (v := .int (J 0 0)) (C := RX5) (T := TX5) (N := 15) hx hb hts in5 hown hK hP (m_at0 hj) rfl 0 (by decide) (hts (.fieldLink RX5 43 "WagonSidingsModel" "wagons" "I") (by decide +kernel)) (fun _ h9 => h9) rfl dX5_wagon_27 ?_
      refine W.eq (g2 := F0 m 30 ls [.int (nI n), .ref (ad 1 0)]) (by rw [hR.1]) ?_
      refine lv_iload_n hx hb dX5_wagon_30 rfl (lv_at hl 1 rfl) ?_
      refine fw_iast (w1 := mw kk ad (upI J 1 n k)) hx hb hK hP hD hS 0 (m_at1 hj) rfl (vp_in_nI (by omega) (by decide)) dX5_wagon_31 (by rw [nI_clamp (by omega)]; exact m_st (by omega) hj) (fun H locs hP hD hS => ?_)
      refine lv_aload_n hx hb dX5_wagon_32 rfl (lv_at hl 0 rfl) ?_
      refine fw_get (v := .ref (ad 2 0)) (C := RX5) (T := TX5) (N := 15) hx hb hts in5 hown hK hP (m_at0 hj) rfl 2 (by decide) (hts (.fieldLink RX5 13 "WagonSidingsModel" "load" "[I") (by decide +kernel)) (fun _ h9 => h9) rfl dX5_wagon_33 ?_
      refine lv_aload_n hx hb dX5_wagon_36 rfl (lv_at hl 0 rfl) ?_
      refine fw_get (v := .int ((upI J 1 n k) 0 0)) (C := RX5) (T := TX5) (N := 15) hx hb hts in5 hown hK hP (m_at0 hj) rfl 0 (by decide) (hts (.fieldLink RX5 43 "WagonSidingsModel" "wagons" "I") (by decide +kernel)) (fun _ h9 => h9) rfl dX5_wagon_37 ?_
      refine W.eq (g2 := F0 m 40 ls [.int (nI n), .ref (ad 2 0)]) (by simp [upI, hR.1]) ?_
      refine lv_iload_n hx hb dX5_wagon_40 rfl (lv_at hl 2 rfl) ?_
      refine fw_iast (w1 := mw kk ad (upI (upI J 1 n k) 2 n v)) hx hb hK hP hD hS 0 (m_at2 hj) rfl (vp_in_nI (by omega) (by decide)) dX5_wagon_41 (by rw [nI_clamp (by omega)]; exact m_st (by omega) hj) (fun H locs hP hD hS => ?_)
      refine lv_aload_n hx hb dX5_wagon_42 rfl (lv_at hl 0 rfl) ?_
      refine fw_get (v := .ref (ad 3 0)) (C := RX5) (T := TX5) (N := 15) hx hb hts in5 hown hK hP (m_at0 hj) rfl 3 (by decide) (hts (.fieldLink RX5 16 "WagonSidingsModel" "behind" "[I") (by decide +kernel)) (fun _ h9 => h9) rfl dX5_wagon_43 ?_
      refine lv_aload_n hx hb dX5_wagon_46 rfl (lv_at hl 0 rfl) ?_
      refine fw_get (v := .int ((upI (upI J 1 n k) 2 n v) 0 0)) (C := RX5) (T := TX5) (N := 15) hx hb hts in5 hown hK hP (m_at0 hj) rfl 0 (by decide) (hts (.fieldLink RX5 43 "WagonSidingsModel" "wagons" "I") (by decide +kernel)) (fun _ h9 => h9) rfl dX5_wagon_47 ?_
      refine W.eq (g2 := F0 m 50 ls [.int (nI n), .ref (ad 3 0)]) (by simp [upI, hR.1]) ?_
      refine lv_iconst (v := (-1)) hx hb dX5_wagon_50 (by decide) ?_
      refine fw_iast (w1 := mw kk ad (upI (upI (upI J 1 n k) 2 n v) 3 n (-1))) hx hb hK hP hD hS 0 (m_at3 hj) rfl (vp_in_nI (by omega) (by decide)) dX5_wagon_51 (by rw [nI_clamp (by omega)]; exact m_st (by omega) hj) (fun H locs hP hD hS => ?_)
      refine lv_aload_n hx hb dX5_wagon_52 rfl (lv_at hl 0 rfl) ?_
      refine lv_dup hx hb dX5_wagon_53 rfl ?_
      refine fw_get (v := .int ((upI (upI (upI J 1 n k) 2 n v) 3 n (-1)) 0 0)) (C := RX5) (T := TX5) (N := 15) hx hb hts in5 hown hK hP (m_at0 hj) rfl 0 (by decide) (hts (.fieldLink RX5 43 "WagonSidingsModel" "wagons" "I") (by decide +kernel)) (fun _ h9 => h9) rfl dX5_wagon_54 ?_
      refine W.eq (g2 := F0 m 57 ls [.int (nI n), .ref (ad 0 0)]) (by simp [upI, hR.1]) ?_
      refine lv_iconst (v := 1) hx hb dX5_wagon_57 (by decide) ?_
      refine lv_iadd hx hb dX5_wagon_58 ?_
      refine W.eq (g2 := F0 m 59 ls [.int (nI (n + 1)), .ref (ad 0 0)]) (by rw [show (1 : Int32) = nI 1 from rfl, nI_add]) ?_
      refine fw_put (v := .int (nI (n + 1))) (ty := .int) (C := RX5) (T := TX5) (N := 15) hx hb hts in5 tyX5 tyX5_ok nmX5 hown hK hP hD hS (m_at0 hj) rfl 0 (by decide) (hts (.fieldLink RX5 43 "WagonSidingsModel" "wagons" "I") (by decide +kernel)) (fun _ h9 => h9) rfl (by decide +kernel) rfl rfl (Nat.le_of_ble_eq_true rfl) dX5_wagon_59 (m_put0 hj) (fun H locs hP hD hS => ?_)
      refine lv_aload_n hx hb dX5_wagon_62 rfl (lv_at hl 0 rfl) ?_
      refine fw_get (v := .int ((upI (upI (upI (upI J 1 n k) 2 n v) 3 n (-1)) 0 0 (nI (n + 1))) 0 0)) (C := RX5) (T := TX5) (N := 15) hx hb hts in5 hown hK hP (m_at0 hj) rfl 0 (by decide) (hts (.fieldLink RX5 43 "WagonSidingsModel" "wagons" "I") (by decide +kernel)) (fun _ h9 => h9) rfl dX5_wagon_63 ?_
      refine W.eq (g2 := F0 m 66 ls [.int (nI (n + 1))]) (by rw [upI_s]) ?_
      refine lv_iconst (v := 1) hx hb dX5_wagon_66 (by decide) ?_
      refine lv_isub hx hb dX5_wagon_67 ?_
      refine W.eq (g2 := F0 m 68 ls [.int (nI n)]) (by rw [nI_p]) ?_
      exact fw_iret hx hb hr hlocks hK hP hD hS dX5_wagon_68 ⟨_, _, _, _, by rw [sp_wagon, pif_t hb1, if_neg (by omega)], mR_wagon hR hY.1, rfl⟩
    · refine lv_bipush (v := (-104)) hx hb dX5_wagon_19 (by decide) ?_
      exact fw_iret hx hb hr hlocks hK hP hD hS dX5_wagon_21 ⟨_, _, _, _, by rw [sp_wagon, pif_t hb1, if_pos ((nI_eq (b := 40) (by omega) (by decide)).mp c_16)], hR, rfl⟩
  · rw [pif_f hb1]
    refine lv_if_ne (tgt := 10) hx hb dX5_wagon_4 (by decide) (fun c9 => absurd c9 (by decide)) (fun _ => ?_)
    refine lv_bipush (v := (-102)) hx hb dX5_wagon_7 (by decide) ?_
    exact fw_iret hx hb hr hlocks hK hP hD hS dX5_wagon_9 ⟨_, _, _, _, by rw [sp_wagon, pif_f hb1], hR, rfl⟩

