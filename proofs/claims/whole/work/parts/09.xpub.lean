theorem rkP_in {I : sI} {r : Nat} {a : Int32} (h : rkP I r a) : vp_in a 12 ∧ a.toNatClampNeg < 12 := by
  have h1 := (fnd_in (n := 12) (N := 12) (by decide) h.2.1 h.2.2.2).1
  refine ⟨h1, ?_⟩
  rcases Nat.lt_or_ge a.toNatClampNeg 12 with q | q
  · exact q
  · exact absurd (Or.inr q) h1
theorem rk_yes {I : sI} {r : Nat} {a : Int32} (h : rkP I r a) : ¬ (a < 0 ∨ ¬ a < I 7 r) := by
  rintro (q | q)
  · exact h.2.1 q
  · exact q (Int32.not_le.mp h.2.2.1)
theorem rk_no {n : Nat} {I : sI} {O : sO} (hY : yI n I O) {r : Nat} {a : Int32} (h5 : ¬ I 5 r = 0) (h : ¬ rkP I r a) : a < 0 ∨ ¬ a < I 7 r := by
  by_cases h1 : a < 0
  · exact Or.inl h1
  · by_cases h2 : a < I 7 r
    · exfalso
      obtain ⟨c, hc, e⟩ := hY.2.2.2.2.2.2.1 r h5
      refine h ⟨h5, h1, Int32.not_le.mpr h2, ?_⟩
      obtain ⟨j, hj, rfl⟩ := nI_of h1
      rw [e, nI_ltI hj (by omega)] at h2
      rw [nI_leI (by decide) hj]
      omega
    · exact Or.inr h2
theorem tb_ix {I : sI} {t : Nat} {a b : Int32} (h : tbP I t a b) : vp_in (a * 6 + b) 72 ∧ (a * 6 + b).toNatClampNeg = 6 * a.toNatClampNeg + b.toNatClampNeg ∧ 6 * a.toNatClampNeg + b.toNatClampNeg < 72 := by
  obtain ⟨h1, -, h2, h3, -, h4⟩ := h
  obtain ⟨p, hp, rfl⟩ := nI_of h1
  obtain ⟨q, hq, rfl⟩ := nI_of h3
  have h2 : p < 12 := by
    rcases Nat.lt_or_ge p 12 with z | z
    · exact z
    · exact absurd (nI_le z hp) h2
  have h4 : q < 6 := by
    rcases Nat.lt_or_ge q 6 with z | z
    · exact z
    · exact absurd (nI_le z hq) h4
  have e : nI p * 6 + nI q = nI (6 * p + q) := by
    rw [show (6 : Int32) = nI 6 from rfl, pk_mul, nI_add, Nat.mul_comm]
  rw [e, nI_clamp hp, nI_clamp hq]
  exact ⟨vp_in_nI (by omega) (by decide), nI_clamp (by omega), by omega⟩
theorem tb_yes {I : sI} {t : Nat} {a b : Int32} (h : tbP I t a b) : ¬ (a < 0 ∨ ¬ a < I 9 t ∨ b < 0 ∨ ¬ b < I 10 t) := by
  obtain ⟨h1, h2, -, h3, h4, -⟩ := h
  rintro (q | q | q | q)
  · exact h1 q
  · exact q (Int32.not_le.mp h2)
  · exact h3 q
  · exact q (Int32.not_le.mp h4)
theorem tb_no {n : Nat} {I : sI} {O : sO} (hY : yI n I O) {t : Nat} {a b : Int32} (h8 : ¬ I 8 t = 0) (h : ¬ tbP I t a b) : a < 0 ∨ ¬ a < I 9 t ∨ b < 0 ∨ ¬ b < I 10 t := by
  by_cases h1 : a < 0
  · exact Or.inl h1
  by_cases h2 : a < I 9 t
  · by_cases h3 : b < 0
    · exact Or.inr (Or.inr (Or.inl h3))
    · by_cases h4 : b < I 10 t
      · exfalso
        obtain ⟨c, d, hc, hd, e1, e2⟩ := hY.2.2.2.2.2.2.2.1 t h8
        obtain ⟨p, hp, rfl⟩ := nI_of h1
        obtain ⟨q, hq, rfl⟩ := nI_of h3
        refine h ⟨h1, Int32.not_le.mpr h2, ?_, h3, Int32.not_le.mpr h4, ?_⟩
        · rw [e1, nI_ltI hp (by omega)] at h2
          show ¬ nI 12 ≤ nI p
          rw [nI_leI (by decide) hp]
          omega
        · rw [e2, nI_ltI hq (by omega)] at h4
          show ¬ nI 6 ≤ nI q
          rw [nI_leI (by decide) hq]
          omega
      · exact Or.inr (Or.inr (Or.inr h4))
  · exact Or.inr (Or.inl h2)

set_option maxHeartbeats 4000000 in
set_option maxRecDepth 100000 in
theorem c_X4_loadOn (l : Launch) (D : va_G) (kk : Nat → ClassId) (ad : Nat → Nat → Nat) (n : Nat) (I : sI) (O : sO) (hj : sj (xV n) ad) (hY : yI n I O) (r0 a : Int32) : fw_Mi l yX4_loadOn wsX4_loadOn { frames := 2, cells := 0, slots := 0, locals := 44 } 0 0 D vwCl (xT kk) (xw kk ad n I O) [.ref (ad 0 0), .int r0, .int a] (fun r w1 => ∃ I1 O1, sp_loadOn I O r0 a = (r, I1, O1) ∧ w1 = xw kk ad n I1 O1) := by
  refine fw_ofi (cc := cX4_loadOn) (maxL := 5) (ret := (some .int)) (by decide) rfl (Nat.le_of_ble_eq_true rfl) ?_
  intro p e s m args below meth c A ls hx hb hml hr hlocks hnm hts hown hK hP hD hA hS hl
  have hown : s.vm.findClass RX4 = some m.cls := hown
  have hl : lv_has ls 5 [(0, .ref (ad 0 0)), (1, .int r0), (2, .int a)] := hl
  have in0 : ∀ w ∈ u_ws RX0 TX0 4, w ∈ wsX4_loadOn := by decide +kernel
  have in3 : ∀ w ∈ u_ws RX3 TX3 6, w ∈ wsX4_loadOn := by decide +kernel
  have hI := hY.1
  refine lv_aload_n hx hb dX4_loadOn_0 rfl (lv_at hl 0 rfl) ?_
  refine lv_iload_n hx hb dX4_loadOn_1 rfl (lv_at hl 1 rfl) ?_
  refine fw_callq (va_runV (As := [.int r0]) (rest := []) ⟨hx, hb, hml, hown, hts⟩ (c_X4_findRake l D kk ad n I O hj hI r0 _) (cwV 1 hts gX4_loadOn_X4_findRake rfl rfl rfl (by decide +kernel) ⟨Nat.le_of_ble_eq_true rfl, Nat.le_of_ble_eq_true rfl⟩) (fw_preV hK hP (ci := 4) rfl (x_at0 hj)) rfl rfl hl.1 rfl (lv_room (Nat.le_of_ble_eq_true rfl)) dX4_loadOn_2 ⟨Nat.le_of_ble_eq_true rfl, Nat.le_of_ble_eq_true rfl⟩) hD hS hA (fun r w1 H locs hq hP hD hS => ?_)
  obtain ⟨rfl, rfl⟩ := hq
  rcases oc (fnd 4 r0) with hf1 | ⟨i2, hf1⟩
  · refine W.eq (g2 := F0 m 5 ls [.null]) (by rw [hf1]; rfl) ?_
    refine lv_astore_nN (lv' := [(3, .null), (0, .ref (ad 0 0)), (1, .int r0), (2, .int a)]) hx hb dX4_loadOn_5 rfl hl (by decide) rfl (fun ls hl => ?_)
    refine lv_aload_nN hx hb dX4_loadOn_6 rfl (lv_at hl 0 rfl) ?_
    refine lv_ifnonnullN hx hb dX4_loadOn_7 ?_
    refine lv_bipush (v := (-101)) hx hb dX4_loadOn_10 (by decide) ?_
    exact fw_iret hx hb hr hlocks hK hP hD hS dX4_loadOn_12 ⟨_, _, by simp [sp_loadOn, pif_True, pif_False, hf1], rfl⟩
  · have hi2 := (fnd_lt hf1).1
    refine W.eq (g2 := F0 m 5 ls [.ref (ad 7 i2)]) (by rw [hf1]; rfl) ?_
    refine lv_astore_n (lv' := [(3, .ref (ad 7 i2)), (0, .ref (ad 0 0)), (1, .int r0), (2, .int a)]) hx hb dX4_loadOn_5 rfl hl (by decide) rfl (fun ls hl => ?_)
    refine lv_aload_n hx hb dX4_loadOn_6 rfl (lv_at hl 0 rfl) ?_
    refine lv_ifnonnull (tgt := 13) hx hb dX4_loadOn_7 (by decide) ?_
    refine lv_aload_n hx hb dX4_loadOn_13 rfl (lv_at hl 0 rfl) ?_
    refine fw_get (v := .int (I 5 i2)) (C := RX0) (T := TX0) (N := 4) hx hb hts in0 hown hK hP (x_at7 hj hi2) rfl 0 (by decide) (hts (.fieldLink RX4 121 "WagonSidings$Rake" "made" "Z") (by decide +kernel)) (fun _ h9 => h9) rfl dX4_loadOn_14 ?_
    refine lv_if_ne (tgt := 27) hx hb dX4_loadOn_17 (by decide) (fun c_17 => ?_) (fun c_17 => ?_)
    · refine lv_aload_n hx hb dX4_loadOn_27 rfl (lv_at hl 0 rfl) ?_
      refine lv_iload_n hx hb dX4_loadOn_28 rfl (lv_at hl 3 rfl) ?_
      refine fw_calli (va_runV (As := [.int a]) (rest := []) ⟨hx, hb, hml, hown, hts⟩ (c_X0_hasPlace l D kk ad n I O hj hI hi2 a _) (cwV 1 hts gX4_loadOn_X0_hasPlace rfl rfl rfl (by decide +kernel) ⟨Nat.le_of_ble_eq_true rfl, Nat.le_of_ble_eq_true rfl⟩) (fw_preV hK hP (ci := 0) rfl (x_at7 hj hi2)) rfl rfl hl.1 rfl (lv_room (Nat.le_of_ble_eq_true rfl)) dX4_loadOn_29 ⟨Nat.le_of_ble_eq_true rfl, Nat.le_of_ble_eq_true rfl⟩) hD hS hA (fun r w1 H locs hq hP hD hS => ?_)
      obtain ⟨rfl, rfl⟩ := hq
      by_cases hb3 : rkP I i2 a
      · rw [pif_t hb3]
        refine lv_if_ne (tgt := 42) hx hb dX4_loadOn_32 (by decide) (fun _ => ?_) (fun c9 => absurd c9 (by decide))
        refine lv_aload_n hx hb dX4_loadOn_42 rfl (lv_at hl 0 rfl) ?_
        refine fw_get (v := .ref (ad 8 i2)) (C := RX0) (T := TX0) (N := 4) hx hb hts in0 hown hK hP (x_at7 hj hi2) rfl 3 (by decide) (hts (.fieldLink RX4 128 "WagonSidings$Rake" "row" "[LWagonSidings$Wagon;") (by decide +kernel)) (fun _ h9 => h9) rfl dX4_loadOn_43 ?_
        refine lv_iload_n hx hb dX4_loadOn_46 rfl (lv_at hl 3 rfl) ?_
        obtain ⟨hin, hlt⟩ := rkP_in hb3
        refine fw_aldq hx hb hK hP 1 (x_at8 hj hi2) rfl hin dX4_loadOn_47 ?_
        refine W.eq (g2 := F0 m 48 ls [va_rf ((O (2 + i2) a.toNatClampNeg).map (ad 5))]) (by simp only [if_pos hlt]) ?_
        rcases oc (O (2 + i2) a.toNatClampNeg) with hf4 | ⟨i5, hf4⟩
        · refine W.eq (g2 := F0 m 48 ls [.null]) (by rw [hf4]; rfl) ?_
          refine lv_astoreN (lv' := [(4, .null), (3, .ref (ad 7 i2)), (0, .ref (ad 0 0)), (1, .int r0), (2, .int a)]) hx hb dX4_loadOn_48 hl (by decide) rfl (fun ls hl => ?_)
          refine lv_aloadN hx hb dX4_loadOn_50 (lv_at hl 0 rfl) ?_
          refine lv_ifnonnullN hx hb dX4_loadOn_52 ?_
          refine lv_aload_n hx hb dX4_loadOn_55 rfl (lv_at hl 2 rfl) ?_
          refine lv_iconst (v := 1) hx hb dX4_loadOn_56 (by decide) ?_
          refine lv_iconst (v := 0) hx hb dX4_loadOn_57 (by decide) ?_
          refine fw_calli (va_runV (As := [.int 1, .int 0]) (rest := []) ⟨hx, hb, hml, hown, hts⟩ (c_X4_fail l D kk ad n I O hj hI 1 0 _) (cwV 2 hts gX4_loadOn_X4_fail rfl rfl rfl (by decide +kernel) ⟨Nat.le_of_ble_eq_true rfl, Nat.le_of_ble_eq_true rfl⟩) (fw_preV hK hP (ci := 4) rfl (x_at0 hj)) rfl rfl hl.1 rfl (lv_room (Nat.le_of_ble_eq_true rfl)) dX4_loadOn_58 ⟨Nat.le_of_ble_eq_true rfl, Nat.le_of_ble_eq_true rfl⟩) hD hS hA (fun r w1 H locs hq hP hD hS => ?_)
          obtain ⟨rfl, rfl⟩ := hq
          refine lv_goto (tgt := 74) hx hb dX4_loadOn_61 (by decide) ?_
          exact fw_iret hx hb hr hlocks hK hP hD hS dX4_loadOn_74 ⟨_, _, by simp only [sp_loadOn, pif_f c_17, hf1, hf4, pif_f (rk_yes hb3)] <;> rfl, rfl⟩
        · have hi5 := (hI.2.1 _ _ _ hf4)
          refine W.eq (g2 := F0 m 48 ls [.ref (ad 5 i5)]) (by rw [hf4]; rfl) ?_
          refine lv_astore (lv' := [(4, .ref (ad 5 i5)), (3, .ref (ad 7 i2)), (0, .ref (ad 0 0)), (1, .int r0), (2, .int a)]) hx hb dX4_loadOn_48 hl (by decide) rfl (fun ls hl => ?_)
          refine lv_aload hx hb dX4_loadOn_50 (lv_at hl 0 rfl) ?_
          refine lv_ifnonnull (tgt := 64) hx hb dX4_loadOn_52 (by decide) ?_
          refine lv_aload_n hx hb dX4_loadOn_64 rfl (lv_at hl 2 rfl) ?_
          refine lv_iconst (v := 0) hx hb dX4_loadOn_65 (by decide) ?_
          refine lv_aload hx hb dX4_loadOn_66 (lv_at hl 0 rfl) ?_
          refine fw_get (v := .int (I 1 i5)) (C := RX3) (T := TX3) (N := 6) hx hb hts in3 hown hK hP (x_at5 hj hi5) rfl 2 (by decide) (hts (.fieldLink RX4 91 "WagonSidings$Wagon" "cargo" "I") (by decide +kernel)) (fun _ h9 => h9) rfl dX4_loadOn_68 ?_
          refine fw_calli (va_runV (As := [.int 0, .int (I 1 i5)]) (rest := []) ⟨hx, hb, hml, hown, hts⟩ (c_X4_succeed l D kk ad n I O hj hI 0 (I 1 i5) _) (cwV 2 hts gX4_loadOn_X4_succeed rfl rfl rfl (by decide +kernel) ⟨Nat.le_of_ble_eq_true rfl, Nat.le_of_ble_eq_true rfl⟩) (fw_preV hK hP (ci := 4) rfl (x_at0 hj)) rfl rfl hl.1 rfl (lv_room (Nat.le_of_ble_eq_true rfl)) dX4_loadOn_71 ⟨Nat.le_of_ble_eq_true rfl, Nat.le_of_ble_eq_true rfl⟩) hD hS hA (fun r w1 H locs hq hP hD hS => ?_)
          obtain ⟨rfl, rfl⟩ := hq
          exact fw_iret hx hb hr hlocks hK hP hD hS dX4_loadOn_74 ⟨_, _, by simp only [sp_loadOn, pif_f c_17, hf1, hf4, pif_f (rk_yes hb3)] <;> rfl, rfl⟩
      · rw [pif_f hb3]
        refine lv_if_ne (tgt := 42) hx hb dX4_loadOn_32 (by decide) (fun c9 => absurd c9 (by decide)) (fun _ => ?_)
        refine lv_aload_n hx hb dX4_loadOn_35 rfl (lv_at hl 1 rfl) ?_
        refine lv_iconst (v := 3) hx hb dX4_loadOn_36 (by decide) ?_
        refine lv_iconst (v := 0) hx hb dX4_loadOn_37 (by decide) ?_
        refine fw_calli (va_runV (As := [.int 3, .int 0]) (rest := []) ⟨hx, hb, hml, hown, hts⟩ (c_X4_fail l D kk ad n I O hj hI 3 0 _) (cwV 2 hts gX4_loadOn_X4_fail rfl rfl rfl (by decide +kernel) ⟨Nat.le_of_ble_eq_true rfl, Nat.le_of_ble_eq_true rfl⟩) (fw_preV hK hP (ci := 4) rfl (x_at0 hj)) rfl rfl hl.1 rfl (lv_room (Nat.le_of_ble_eq_true rfl)) dX4_loadOn_38 ⟨Nat.le_of_ble_eq_true rfl, Nat.le_of_ble_eq_true rfl⟩) hD hS hA (fun r w1 H locs hq hP hD hS => ?_)
        obtain ⟨rfl, rfl⟩ := hq
        exact fw_iret hx hb hr hlocks hK hP hD hS dX4_loadOn_41 ⟨_, _, by simp only [sp_loadOn, pif_f c_17, hf1, pif_t (rk_no hY c_17 hb3)] <;> rfl, rfl⟩
    · refine lv_aload_n hx hb dX4_loadOn_20 rfl (lv_at hl 1 rfl) ?_
      refine lv_iconst (v := 1) hx hb dX4_loadOn_21 (by decide) ?_
      refine lv_iconst (v := 0) hx hb dX4_loadOn_22 (by decide) ?_
      refine fw_calli (va_runV (As := [.int 1, .int 0]) (rest := []) ⟨hx, hb, hml, hown, hts⟩ (c_X4_fail l D kk ad n I O hj hI 1 0 _) (cwV 2 hts gX4_loadOn_X4_fail rfl rfl rfl (by decide +kernel) ⟨Nat.le_of_ble_eq_true rfl, Nat.le_of_ble_eq_true rfl⟩) (fw_preV hK hP (ci := 4) rfl (x_at0 hj)) rfl rfl hl.1 rfl (lv_room (Nat.le_of_ble_eq_true rfl)) dX4_loadOn_23 ⟨Nat.le_of_ble_eq_true rfl, Nat.le_of_ble_eq_true rfl⟩) hD hS hA (fun r w1 H locs hq hP hD hS => ?_)
      obtain ⟨rfl, rfl⟩ := hq
      exact fw_iret hx hb hr hlocks hK hP hD hS dX4_loadOn_26 ⟨_, _, by simp [sp_loadOn, pif_True, pif_False, hf1, eq_true c_17], rfl⟩

set_option maxHeartbeats 4000000 in
set_option maxRecDepth 100000 in
theorem c_X4_onRake (l : Launch) (D : va_G) (kk : Nat → ClassId) (ad : Nat → Nat → Nat) (n : Nat) (I : sI) (O : sO) (hj : sj (xV n) ad) (hY : yI n I O) (r0 a : Int32) : fw_Mi l yX4_onRake wsX4_onRake { frames := 1, cells := 0, slots := 0, locals := 21 } 0 0 D vwCl (xT kk) (xw kk ad n I O) [.ref (ad 0 0), .int r0, .int a] (fun r w1 => sp_onRake I O r0 a = r ∧ w1 = xw kk ad n I O) := by
  refine fw_ofi (cc := cX4_onRake) (maxL := 4) (ret := (some .int)) (by decide) rfl (Nat.le_of_ble_eq_true rfl) ?_
  intro p e s m args below meth c A ls hx hb hml hr hlocks hnm hts hown hK hP hD hA hS hl
  have hown : s.vm.findClass RX4 = some m.cls := hown
  have hl : lv_has ls 4 [(0, .ref (ad 0 0)), (1, .int r0), (2, .int a)] := hl
  have in0 : ∀ w ∈ u_ws RX0 TX0 4, w ∈ wsX4_onRake := by decide +kernel
  have hI := hY.1
  refine lv_aload_n hx hb dX4_onRake_0 rfl (lv_at hl 0 rfl) ?_
  refine lv_iload_n hx hb dX4_onRake_1 rfl (lv_at hl 1 rfl) ?_
  refine fw_callq (va_runV (As := [.int r0]) (rest := []) ⟨hx, hb, hml, hown, hts⟩ (c_X4_findRake l D kk ad n I O hj hI r0 _) (cwV 1 hts gX4_onRake_X4_findRake rfl rfl rfl (by decide +kernel) ⟨Nat.le_of_ble_eq_true rfl, Nat.le_of_ble_eq_true rfl⟩) (fw_preV hK hP (ci := 4) rfl (x_at0 hj)) rfl rfl hl.1 rfl (lv_room (Nat.le_of_ble_eq_true rfl)) dX4_onRake_2 ⟨Nat.le_of_ble_eq_true rfl, Nat.le_of_ble_eq_true rfl⟩) hD hS hA (fun r w1 H locs hq hP hD hS => ?_)
  obtain ⟨rfl, rfl⟩ := hq
  rcases oc (fnd 4 r0) with hf1 | ⟨i2, hf1⟩
  · refine W.eq (g2 := F0 m 5 ls [.null]) (by rw [hf1]; rfl) ?_
    refine lv_astore_nN (lv' := [(3, .null), (0, .ref (ad 0 0)), (1, .int r0), (2, .int a)]) hx hb dX4_onRake_5 rfl hl (by decide) rfl (fun ls hl => ?_)
    refine lv_aload_nN hx hb dX4_onRake_6 rfl (lv_at hl 0 rfl) ?_
    refine lv_ifnonnullN hx hb dX4_onRake_7 ?_
    refine lv_bipush (v := (-101)) hx hb dX4_onRake_10 (by decide) ?_
    exact fw_iret hx hb hr hlocks hK hP hD hS dX4_onRake_12 ⟨by simp [sp_onRake, pif_True, pif_False, hf1], rfl⟩
  · have hi2 := (fnd_lt hf1).1
    refine W.eq (g2 := F0 m 5 ls [.ref (ad 7 i2)]) (by rw [hf1]; rfl) ?_
    refine lv_astore_n (lv' := [(3, .ref (ad 7 i2)), (0, .ref (ad 0 0)), (1, .int r0), (2, .int a)]) hx hb dX4_onRake_5 rfl hl (by decide) rfl (fun ls hl => ?_)
    refine lv_aload_n hx hb dX4_onRake_6 rfl (lv_at hl 0 rfl) ?_
    refine lv_ifnonnull (tgt := 13) hx hb dX4_onRake_7 (by decide) ?_
    refine lv_aload_n hx hb dX4_onRake_13 rfl (lv_at hl 0 rfl) ?_
    refine lv_iload_n hx hb dX4_onRake_14 rfl (lv_at hl 3 rfl) ?_
    refine fw_calli (va_runV (As := [.int a]) (rest := []) ⟨hx, hb, hml, hown, hts⟩ (c_X0_hasPlace l D kk ad n I O hj hI hi2 a _) (cwV 1 hts gX4_onRake_X0_hasPlace rfl rfl rfl (by decide +kernel) ⟨Nat.le_of_ble_eq_true rfl, Nat.le_of_ble_eq_true rfl⟩) (fw_preV hK hP (ci := 0) rfl (x_at7 hj hi2)) rfl rfl hl.1 rfl (lv_room (Nat.le_of_ble_eq_true rfl)) dX4_onRake_15 ⟨Nat.le_of_ble_eq_true rfl, Nat.le_of_ble_eq_true rfl⟩) hD hS hA (fun r w1 H locs hq hP hD hS => ?_)
    obtain ⟨rfl, rfl⟩ := hq
    by_cases hb3 : rkP I i2 a
    · rw [pif_t hb3]
      refine lv_if_eq (tgt := 33) hx hb dX4_onRake_18 (by decide) (fun c9 => absurd c9 (by decide)) (fun _ => ?_)
      refine lv_aload_n hx hb dX4_onRake_21 rfl (lv_at hl 0 rfl) ?_
      refine fw_get (v := .ref (ad 8 i2)) (C := RX0) (T := TX0) (N := 4) hx hb hts in0 hown hK hP (x_at7 hj hi2) rfl 3 (by decide) (hts (.fieldLink RX4 128 "WagonSidings$Rake" "row" "[LWagonSidings$Wagon;") (by decide +kernel)) (fun _ h9 => h9) rfl dX4_onRake_22 ?_
      refine lv_iload_n hx hb dX4_onRake_25 rfl (lv_at hl 3 rfl) ?_
      obtain ⟨hin, hlt⟩ := rkP_in hb3
      refine fw_aldq hx hb hK hP 1 (x_at8 hj hi2) rfl hin dX4_onRake_26 ?_
      refine W.eq (g2 := F0 m 27 ls [va_rf ((O (2 + i2) a.toNatClampNeg).map (ad 5))]) (by simp only [if_pos hlt]) ?_
      rcases oc (O (2 + i2) a.toNatClampNeg) with hf4 | ⟨i5, hf4⟩
      · refine W.eq (g2 := F0 m 27 ls [.null]) (by rw [hf4]; rfl) ?_
        refine fw_calli (va_runS (As := [.null]) (rest := []) ⟨hx, hb, hml, hown, hts⟩ (c_X4_numberOfN l D kk _ _) (va_cwS 1 hts gX4_onRake_X4_numberOf rfl rfl rfl (by decide +kernel) ⟨Nat.le_of_ble_eq_true rfl, Nat.le_of_ble_eq_true rfl⟩) (fw_preS hK hP) rfl rfl hl.1 rfl (lv_room (Nat.le_of_ble_eq_true rfl)) dX4_onRake_27 ⟨Nat.le_of_ble_eq_true rfl, Nat.le_of_ble_eq_true rfl⟩) hD hS hA (fun r w1 H locs hq hP hD hS => ?_)
        obtain ⟨rfl, rfl⟩ := hq
        refine lv_goto (tgt := 34) hx hb dX4_onRake_30 (by decide) ?_
        exact fw_iret hx hb hr hlocks hK hP hD hS dX4_onRake_34 ⟨by simp only [sp_onRake, hf1, hf4, num, pif_f (show ¬ (I 5 i2 = 0 ∨ a < 0 ∨ ¬ a < I 7 i2) from fun z => z.elim hb3.1 (rk_yes hb3))], rfl⟩
      · have hi5 := (hI.2.1 _ _ _ hf4)
        refine W.eq (g2 := F0 m 27 ls [.ref (ad 5 i5)]) (by rw [hf4]; rfl) ?_
        refine fw_calli (va_runS (As := [.ref (ad 5 i5)]) (rest := []) ⟨hx, hb, hml, hown, hts⟩ (c_X4_numberOf l D kk ad n I O hj hi5 _) (va_cwS 1 hts gX4_onRake_X4_numberOf rfl rfl rfl (by decide +kernel) ⟨Nat.le_of_ble_eq_true rfl, Nat.le_of_ble_eq_true rfl⟩) (fw_preS hK hP) rfl rfl hl.1 rfl (lv_room (Nat.le_of_ble_eq_true rfl)) dX4_onRake_27 ⟨Nat.le_of_ble_eq_true rfl, Nat.le_of_ble_eq_true rfl⟩) hD hS hA (fun r w1 H locs hq hP hD hS => ?_)
        obtain ⟨rfl, rfl⟩ := hq
        refine lv_goto (tgt := 34) hx hb dX4_onRake_30 (by decide) ?_
        exact fw_iret hx hb hr hlocks hK hP hD hS dX4_onRake_34 ⟨by simp only [sp_onRake, hf1, hf4, num, pif_f (show ¬ (I 5 i2 = 0 ∨ a < 0 ∨ ¬ a < I 7 i2) from fun z => z.elim hb3.1 (rk_yes hb3))], rfl⟩
    · rw [pif_f hb3]
      refine lv_if_eq (tgt := 33) hx hb dX4_onRake_18 (by decide) (fun _ => ?_) (fun c9 => absurd c9 (by decide))
      refine lv_iconst (v := (-1)) hx hb dX4_onRake_33 (by decide) ?_
      exact fw_iret hx hb hr hlocks hK hP hD hS dX4_onRake_34 ⟨by simp only [sp_onRake, hf1]; exact pif_t (by by_cases z : I 5 i2 = 0; exact Or.inl z; exact Or.inr (rk_no hY z hb3)), rfl⟩

set_option maxHeartbeats 4000000 in
set_option maxRecDepth 100000 in
theorem c_X4_add (l : Launch) (D : va_G) (kk : Nat → ClassId) (ad : Nat → Nat → Nat) (n : Nat) (I : sI) (O : sO) (hj : sj (xV n) ad) (hY : yI n I O) (t a b v : Int32) : fw_Mi l yX4_add wsX4_add { frames := 2, cells := 0, slots := 0, locals := 44 } 0 0 D vwCl (xT kk) (xw kk ad n I O) [.ref (ad 0 0), .int t, .int a, .int b, .int v] (fun r w1 => ∃ I1 O1, sp_add I O t a b v = (r, I1, O1) ∧ w1 = xw kk ad n I1 O1) := by
  refine fw_ofi (cc := cX4_add) (maxL := 7) (ret := (some .int)) (by decide) rfl (Nat.le_of_ble_eq_true rfl) ?_
  intro p e s m args below meth c A ls hx hb hml hr hlocks hnm hts hown hK hP hD hA hS hl
  have hown : s.vm.findClass RX4 = some m.cls := hown
  have hl : lv_has ls 7 [(0, .ref (ad 0 0)), (1, .int t), (2, .int a), (3, .int b), (4, .int v)] := hl
  have in1 : ∀ w ∈ u_ws RX1 TX1 4, w ∈ wsX4_add := by decide +kernel
  have hI := hY.1
  refine lv_aload_n hx hb dX4_add_0 rfl (lv_at hl 0 rfl) ?_
  refine lv_iload_n hx hb dX4_add_1 rfl (lv_at hl 1 rfl) ?_
  refine fw_callq (va_runV (As := [.int t]) (rest := []) ⟨hx, hb, hml, hown, hts⟩ (c_X4_findTable l D kk ad n I O hj hI t _) (cwV 1 hts gX4_add_X4_findTable rfl rfl rfl (by decide +kernel) ⟨Nat.le_of_ble_eq_true rfl, Nat.le_of_ble_eq_true rfl⟩) (fw_preV hK hP (ci := 4) rfl (x_at0 hj)) rfl rfl hl.1 rfl (lv_room (Nat.le_of_ble_eq_true rfl)) dX4_add_2 ⟨Nat.le_of_ble_eq_true rfl, Nat.le_of_ble_eq_true rfl⟩) hD hS hA (fun r w1 H locs hq hP hD hS => ?_)
  obtain ⟨rfl, rfl⟩ := hq
  rcases oc (fnd 2 t) with hf1 | ⟨i2, hf1⟩
  · refine W.eq (g2 := F0 m 5 ls [.null]) (by rw [hf1]; rfl) ?_
    refine lv_astoreN (lv' := [(5, .null), (0, .ref (ad 0 0)), (1, .int t), (2, .int a), (3, .int b), (4, .int v)]) hx hb dX4_add_5 hl (by decide) rfl (fun ls hl => ?_)
    refine lv_aloadN hx hb dX4_add_7 (lv_at hl 0 rfl) ?_
    refine lv_ifnonnullN hx hb dX4_add_9 ?_
    refine lv_bipush (v := (-101)) hx hb dX4_add_12 (by decide) ?_
    exact fw_iret hx hb hr hlocks hK hP hD hS dX4_add_14 ⟨_, _, by simp [sp_add, pif_True, pif_False, hf1], rfl⟩
  · have hi2 := (fnd_lt hf1).1
    refine W.eq (g2 := F0 m 5 ls [.ref (ad 9 i2)]) (by rw [hf1]; rfl) ?_
    refine lv_astore (lv' := [(5, .ref (ad 9 i2)), (0, .ref (ad 0 0)), (1, .int t), (2, .int a), (3, .int b), (4, .int v)]) hx hb dX4_add_5 hl (by decide) rfl (fun ls hl => ?_)
    refine lv_aload hx hb dX4_add_7 (lv_at hl 0 rfl) ?_
    refine lv_ifnonnull (tgt := 15) hx hb dX4_add_9 (by decide) ?_
    refine lv_aload hx hb dX4_add_15 (lv_at hl 0 rfl) ?_
    refine fw_get (v := .int (I 8 i2)) (C := RX1) (T := TX1) (N := 4) hx hb hts in1 hown hK hP (x_at9 hj hi2) rfl 0 (by decide) (hts (.fieldLink RX4 139 "WagonSidings$Table" "made" "Z") (by decide +kernel)) (fun _ h9 => h9) rfl dX4_add_17 ?_
    refine lv_if_ne (tgt := 30) hx hb dX4_add_20 (by decide) (fun c_20 => ?_) (fun c_20 => ?_)
    · refine lv_aload hx hb dX4_add_30 (lv_at hl 0 rfl) ?_
      refine lv_iload_n hx hb dX4_add_32 rfl (lv_at hl 3 rfl) ?_
      refine lv_iload_n hx hb dX4_add_33 rfl (lv_at hl 4 rfl) ?_
      refine fw_calli (va_runV (As := [.int a, .int b]) (rest := []) ⟨hx, hb, hml, hown, hts⟩ (c_X1_hasPlace l D kk ad n I O hj hI hi2 a b _) (cwV 2 hts gX4_add_X1_hasPlace rfl rfl rfl (by decide +kernel) ⟨Nat.le_of_ble_eq_true rfl, Nat.le_of_ble_eq_true rfl⟩) (fw_preV hK hP (ci := 1) rfl (x_at9 hj hi2)) rfl rfl hl.1 rfl (lv_room (Nat.le_of_ble_eq_true rfl)) dX4_add_34 ⟨Nat.le_of_ble_eq_true rfl, Nat.le_of_ble_eq_true rfl⟩) hD hS hA (fun r w1 H locs hq hP hD hS => ?_)
      obtain ⟨rfl, rfl⟩ := hq
      by_cases hb3 : tbP I i2 a b
      · rw [pif_t hb3]
        refine lv_if_ne (tgt := 47) hx hb dX4_add_37 (by decide) (fun _ => ?_) (fun c9 => absurd c9 (by decide))
        refine lv_iload_n hx hb dX4_add_47 rfl (lv_at hl 3 rfl) ?_
        refine lv_bipush (v := 6) hx hb dX4_add_48 (by decide) ?_
        refine lv_imul hx hb dX4_add_50 ?_
        refine lv_iload_n hx hb dX4_add_51 rfl (lv_at hl 4 rfl) ?_
        refine lv_iadd hx hb dX4_add_52 ?_
        refine lv_istore (lv' := [(6, .int ((a * 6) + b)), (5, .ref (ad 9 i2)), (0, .ref (ad 0 0)), (1, .int t), (2, .int a), (3, .int b), (4, .int v)]) hx hb dX4_add_53 hl (by decide) rfl (fun ls hl => ?_)
        refine lv_aload hx hb dX4_add_55 (lv_at hl 1 rfl) ?_
        refine fw_get (v := .ref (ad 10 i2)) (C := RX1) (T := TX1) (N := 4) hx hb hts in1 hown hK hP (x_at9 hj hi2) rfl 3 (by decide) (hts (.fieldLink RX4 142 "WagonSidings$Table" "cells" "[I") (by decide +kernel)) (fun _ h9 => h9) rfl dX4_add_57 ?_
        refine lv_iload hx hb dX4_add_60 (lv_at hl 0 rfl) ?_
        refine lv_dup2_11 hx hb dX4_add_62 rfl rfl ?_
        obtain ⟨hin, hix, hlt⟩ := tb_ix hb3
        refine fw_iald hx hb hK hP 0 (x_at10 hj hi2) rfl hin dX4_add_63 ?_
        refine W.eq (g2 := F0 m 64 ls [.int (I (20 + i2) (6 * a.toNatClampNeg + b.toNatClampNeg)), .int ((a * 6) + b), .ref (ad 10 i2)]) (by simp only [hix, if_pos hlt]) ?_
        refine lv_iload hx hb dX4_add_64 (lv_at hl 6 rfl) ?_
        refine lv_iadd hx hb dX4_add_66 ?_
        refine fw_iast (w1 := xw kk ad n (upI I (20 + i2) (6 * a.toNatClampNeg + b.toNatClampNeg) ((I (20 + i2) (6 * a.toNatClampNeg + b.toNatClampNeg)) + v)) O) hx hb hK hP hD hS 0 (x_at10 hj hi2) rfl hin dX4_add_67 (by rw [hix]; exact x_cell hj hi2 hlt) (fun H locs hP hD hS => ?_)
        refine lv_aload_n hx hb dX4_add_68 rfl (lv_at hl 2 rfl) ?_
        refine lv_iconst (v := 0) hx hb dX4_add_69 (by decide) ?_
        refine lv_aload hx hb dX4_add_70 (lv_at hl 1 rfl) ?_
        refine fw_get (v := .ref (ad 10 i2)) (C := RX1) (T := TX1) (N := 4) hx hb hts in1 hown hK hP (x_at9 hj hi2) rfl 3 (by decide) (hts (.fieldLink RX4 142 "WagonSidings$Table" "cells" "[I") (by decide +kernel)) (fun _ h9 => h9) rfl dX4_add_72 ?_
        refine lv_iload hx hb dX4_add_75 (lv_at hl 0 rfl) ?_
        refine fw_iald hx hb hK hP 0 (x_at10 hj hi2) rfl hin dX4_add_77 ?_
        refine W.eq (g2 := F0 m 78 ls [.int (I (20 + i2) (6 * a.toNatClampNeg + b.toNatClampNeg) + v), .int 0, .ref (ad 0 0)]) (by simp only [hix, if_pos hlt, upI_s]) ?_
        refine fw_calli (va_runV (As := [.int 0, .int (I (20 + i2) (6 * a.toNatClampNeg + b.toNatClampNeg) + v)]) (rest := []) ⟨hx, hb, hml, hown, hts⟩ (c_X4_succeed l D kk ad n (upI I (20 + i2) (6 * a.toNatClampNeg + b.toNatClampNeg) ((I (20 + i2) (6 * a.toNatClampNeg + b.toNatClampNeg)) + v)) O hj hI 0 (I (20 + i2) (6 * a.toNatClampNeg + b.toNatClampNeg) + v) _) (cwV 2 hts gX4_add_X4_succeed rfl rfl rfl (by decide +kernel) ⟨Nat.le_of_ble_eq_true rfl, Nat.le_of_ble_eq_true rfl⟩) (fw_preV hK hP (ci := 4) rfl (x_at0 hj)) rfl rfl hl.1 rfl (lv_room (Nat.le_of_ble_eq_true rfl)) dX4_add_78 ⟨Nat.le_of_ble_eq_true rfl, Nat.le_of_ble_eq_true rfl⟩) hD hS hA (fun r w1 H locs hq hP hD hS => ?_)
        obtain ⟨rfl, rfl⟩ := hq
        exact fw_iret hx hb hr hlocks hK hP hD hS dX4_add_81 ⟨_, _, by simp only [sp_add, pif_f c_20, hf1, pif_f (tb_yes hb3)] <;> rfl, rfl⟩
      · rw [pif_f hb3]
        refine lv_if_ne (tgt := 47) hx hb dX4_add_37 (by decide) (fun c9 => absurd c9 (by decide)) (fun _ => ?_)
        refine lv_aload_n hx hb dX4_add_40 rfl (lv_at hl 1 rfl) ?_
        refine lv_iconst (v := 3) hx hb dX4_add_41 (by decide) ?_
        refine lv_iconst (v := 0) hx hb dX4_add_42 (by decide) ?_
        refine fw_calli (va_runV (As := [.int 3, .int 0]) (rest := []) ⟨hx, hb, hml, hown, hts⟩ (c_X4_fail l D kk ad n I O hj hI 3 0 _) (cwV 2 hts gX4_add_X4_fail rfl rfl rfl (by decide +kernel) ⟨Nat.le_of_ble_eq_true rfl, Nat.le_of_ble_eq_true rfl⟩) (fw_preV hK hP (ci := 4) rfl (x_at0 hj)) rfl rfl hl.1 rfl (lv_room (Nat.le_of_ble_eq_true rfl)) dX4_add_43 ⟨Nat.le_of_ble_eq_true rfl, Nat.le_of_ble_eq_true rfl⟩) hD hS hA (fun r w1 H locs hq hP hD hS => ?_)
        obtain ⟨rfl, rfl⟩ := hq
        exact fw_iret hx hb hr hlocks hK hP hD hS dX4_add_46 ⟨_, _, by simp only [sp_add, pif_f c_20, hf1, pif_t (tb_no hY c_20 hb3)] <;> rfl, rfl⟩
    · refine lv_aload_n hx hb dX4_add_23 rfl (lv_at hl 1 rfl) ?_
      refine lv_iconst (v := 1) hx hb dX4_add_24 (by decide) ?_
      refine lv_iconst (v := 0) hx hb dX4_add_25 (by decide) ?_
      refine fw_calli (va_runV (As := [.int 1, .int 0]) (rest := []) ⟨hx, hb, hml, hown, hts⟩ (c_X4_fail l D kk ad n I O hj hI 1 0 _) (cwV 2 hts gX4_add_X4_fail rfl rfl rfl (by decide +kernel) ⟨Nat.le_of_ble_eq_true rfl, Nat.le_of_ble_eq_true rfl⟩) (fw_preV hK hP (ci := 4) rfl (x_at0 hj)) rfl rfl hl.1 rfl (lv_room (Nat.le_of_ble_eq_true rfl)) dX4_add_26 ⟨Nat.le_of_ble_eq_true rfl, Nat.le_of_ble_eq_true rfl⟩) hD hS hA (fun r w1 H locs hq hP hD hS => ?_)
      obtain ⟨rfl, rfl⟩ := hq
      exact fw_iret hx hb hr hlocks hK hP hD hS dX4_add_29 ⟨_, _, by simp [sp_add, pif_True, pif_False, hf1, eq_true c_20], rfl⟩
