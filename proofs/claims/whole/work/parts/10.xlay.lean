theorem sp_lay_ok {I : sI} {O Q : sO} {r t : Int32} {j k d : Nat} (h4 : fnd 4 r = some j) (h6 : fnd 6 t = some k) (h5 : ¬ I 5 j = 0) (h1 : ¬ O 1 k = none) (h : ly I j 13 0 (O 1 k) O = (0, d, Q)) : sp_lay I O r t = (nI d, tl I 0 (nI d), Q) := by
  have hno : ¬ (I 5 j = 0 ∨ O 1 k = none) := fun z => z.elim h5 h1
  simp only [sp_lay, h4, h6, pif_f hno, h]
  exact pif_t trivial
theorem sp_lay_bad {I : sI} {O Q : sO} {r t e : Int32} {j k d : Nat} (h4 : fnd 4 r = some j) (h6 : fnd 6 t = some k) (h5 : ¬ I 5 j = 0) (h1 : ¬ O 1 k = none) (he : ¬ e = 0) (h : ly I j 13 0 (O 1 k) O = (e, d, Q)) : sp_lay I O r t = (-200 - e, tl I e (nI d), Q) := by
  have hno : ¬ (I 5 j = 0 ∨ O 1 k = none) := fun z => z.elim h5 h1
  simp only [sp_lay, h4, h6, pif_f hno, h]
  rw [pif_f he]
theorem ly_end {I : sI} {j f d : Nat} {Q : sO} : ly I j (f + 1) d none Q = (0, d, Q) := rfl
theorem ly_3 {I : sI} {j f d x : Nat} {Q : sO} (h : ¬ nI d < I 7 j) : ly I j (f + 1) d (some x) Q = (3, d, Q) := pif_f h
theorem ly_5 {I : sI} {j f d x : Nat} {Q : sO} (h : nI d < I 7 j) (h2 : ¬ isOf (I 0 x) (I 6 j)) : ly I j (f + 1) d (some x) Q = (5, d, Q) := (pif_t h).trans (pif_f h2)
theorem ly_go {I : sI} {j f d x : Nat} {Q : sO} (h : nI d < I 7 j) (h2 : isOf (I 0 x) (I 6 j)) : ly I j (f + 1) d (some x) Q = ly I j f (d + 1) (Q 0 x) (upO Q (2 + j) d (some x)) := (pif_t h).trans (pif_t h2)
theorem rk_lt {n : Nat} {I : sI} {O : sO} (hY : yI n I O) {j d : Nat} (h5 : ¬ I 5 j = 0) (hd : d ≤ 12) (h : nI d < I 7 j) : d < 12 := by
  obtain ⟨c, hc, e⟩ := hY.2.2.2.2.2.2.1 j h5
  rw [e, nI_ltI (by omega) (by omega)] at h
  omega

set_option maxHeartbeats 4000000 in
set_option maxRecDepth 100000 in
theorem c_X4_lay (l : Launch) (D : va_G) (kk : Nat → ClassId) (ad : Nat → Nat → Nat) (n : Nat) (I : sI) (O : sO) (hj : sj (xV n) ad) (hY : yI n I O) (r0 t : Int32) : fw_Mi l yX4_lay wsX4_lay { frames := 2, cells := 0, slots := 0, locals := 44 } 0 0 D vwCl (xT kk) (xw kk ad n I O) [.ref (ad 0 0), .int r0, .int t] (fun r w1 => ∃ I1 O1, sp_lay I O r0 t = (r, I1, O1) ∧ w1 = xw kk ad n I1 O1) := by
  refine fw_ofi (cc := cX4_lay) (maxL := 7) (ret := (some .int)) (by decide) rfl (Nat.le_of_ble_eq_true rfl) ?_
  intro p e s m args below meth c A ls hx hb hml hr hlocks hnm hts hown hK hP hD hA hS hl
  have hown : s.vm.findClass RX4 = some m.cls := hown
  have hl : lv_has ls 7 [(0, .ref (ad 0 0)), (1, .int r0), (2, .int t)] := hl
  have in0 : ∀ w ∈ u_ws RX0 TX0 4, w ∈ wsX4_lay := by decide +kernel
  have in2 : ∀ w ∈ u_ws RX2 TX2 2, w ∈ wsX4_lay := by decide +kernel
  have in3 : ∀ w ∈ u_ws RX3 TX3 6, w ∈ wsX4_lay := by decide +kernel
  have hI := hY.1
  have loop : ∀ (j k : Nat), j < 4 → k < 6 → fnd 4 r0 = some j → fnd 6 t = some k → ¬ I 5 j = 0 → ¬ O 1 k = none → ∀ (f d : Nat) (o : Option Nat) (Q : sO) (H : Heap) (locs : List Loc) (ls : Array Slot), d + f = 13 → d ≤ 12 → (∀ x, o = some x → x < n) → xI n Q → ly I j f d o Q = ly I j 13 0 (O 1 k) O → fw_P D vwCl (xw kk ad n I Q) H → fw_D A (xw kk ad n I Q) → va_S A s.heap H locs → lv_has ls 7 [(6, va_rf (o.map (ad 5))), (5, .int (nI d)), (0, .ref (ad 0 0)), (1, .int r0), (2, .int t), (3, .ref (ad 7 j)), (4, .ref (ad 6 k))] → W p l e { frames := 2, cells := 0, slots := 0, locals := 44 } s m args below meth c H locs 0 0 (MQ below (va_Qi (fun r w1 => ∃ I1 O1, sp_lay I O r0 t = (r, I1, O1) ∧ w1 = xw kk ad n I1 O1) (fw_B D vwCl (xT kk) A) A) args s 0 0 A) (F0 m 57 ls []) := by
    intro j k hj4 hk6 h4 h6 h5 h1 f
    induction f with
    | zero =>
      intro d o Q H locs ls hdf hd12
      omega
    | succ f ih =>
      intro d o Q H locs ls hdf hd12 hro hIQ hly hP hD hS hl
      rcases o with _ | x
      · have hl : lv_has ls 7 [(6, .null), (5, .int (nI d)), (0, .ref (ad 0 0)), (1, .int r0), (2, .int t), (3, .ref (ad 7 j)), (4, .ref (ad 6 k))] := hl
        refine lv_aloadN hx hb dX4_lay_57 (lv_at hl 0 rfl) ?_
        refine lv_ifnullN (tgt := 124) hx hb dX4_lay_59 (by decide) ?_
        refine lv_aload_n hx hb dX4_lay_124 rfl (lv_at hl 2 rfl) ?_
        refine lv_iload hx hb dX4_lay_125 (lv_at hl 1 rfl) ?_
        refine lv_iload hx hb dX4_lay_127 (lv_at hl 1 rfl) ?_
        refine fw_calli (va_runV (As := [.int (nI d), .int (nI d)]) (rest := []) ⟨hx, hb, hml, hown, hts⟩ (c_X4_succeed l D kk ad n I Q hj hIQ (nI d) (nI d) _) (cwV 2 hts gX4_lay_X4_succeed rfl rfl rfl (by decide +kernel) ⟨Nat.le_of_ble_eq_true rfl, Nat.le_of_ble_eq_true rfl⟩) (fw_preV hK hP (ci := 4) rfl (x_at0 hj)) rfl rfl hl.1 rfl (lv_room (Nat.le_of_ble_eq_true rfl)) dX4_lay_129 ⟨Nat.le_of_ble_eq_true rfl, Nat.le_of_ble_eq_true rfl⟩) hD hS hA (fun r w1 H locs hq hP hD hS => ?_)
        obtain ⟨rfl, rfl⟩ := hq
        exact fw_iret hx hb hr hlocks hK hP hD hS dX4_lay_132 ⟨_, _, sp_lay_ok h4 h6 h5 h1 (hly.symm.trans ly_end), rfl⟩
      · have hx0 := hro x rfl
        have hl : lv_has ls 7 [(6, .ref (ad 5 x)), (5, .int (nI d)), (0, .ref (ad 0 0)), (1, .int r0), (2, .int t), (3, .ref (ad 7 j)), (4, .ref (ad 6 k))] := hl
        refine lv_aload hx hb dX4_lay_57 (lv_at hl 0 rfl) ?_
        refine lv_ifnull hx hb dX4_lay_59 ?_
        refine lv_aload_n hx hb dX4_lay_62 rfl (lv_at hl 5 rfl) ?_
        refine lv_iload hx hb dX4_lay_63 (lv_at hl 1 rfl) ?_
        refine fw_calli (va_runV (As := [.int (nI d)]) (rest := []) ⟨hx, hb, hml, hown, hts⟩ (c_X0_hasPlace l D kk ad n I Q hj hIQ hj4 (nI d) _) (cwV 1 hts gX4_lay_X0_hasPlace rfl rfl rfl (by decide +kernel) ⟨Nat.le_of_ble_eq_true rfl, Nat.le_of_ble_eq_true rfl⟩) (fw_preV hK hP (ci := 0) rfl (x_at7 hj hj4)) rfl rfl hl.1 rfl (lv_room (Nat.le_of_ble_eq_true rfl)) dX4_lay_65 ⟨Nat.le_of_ble_eq_true rfl, Nat.le_of_ble_eq_true rfl⟩) hD hS hA (fun r w1 H locs hq hP hD hS => ?_)
        obtain ⟨rfl, rfl⟩ := hq
        by_cases hb1 : rkP I j (nI d)
        · rw [pif_t hb1]
          refine lv_if_ne (tgt := 79) hx hb dX4_lay_68 (by decide) (fun _ => ?_) (fun c9 => absurd c9 (by decide))
          have hlt : nI d < I 7 j := Int32.not_le.mp hb1.2.2.1
          have hd := rk_lt hY h5 hd12 hlt
          refine lv_aload hx hb dX4_lay_79 (lv_at hl 0 rfl) ?_
          refine fw_get (v := .int (I 0 x)) (C := RX3) (T := TX3) (N := 6) hx hb hts in3 hown hK hP (x_at5 hj hx0) rfl 1 (by decide) (hts (.fieldLink RX4 97 "WagonSidings$Wagon" "kind" "I") (by decide +kernel)) (fun _ h9 => h9) rfl dX4_lay_81 ?_
          refine lv_aload_n hx hb dX4_lay_84 rfl (lv_at hl 5 rfl) ?_
          refine fw_get (v := .int (I 6 j)) (C := RX0) (T := TX0) (N := 4) hx hb hts in0 hown hK hP (x_at7 hj hj4) rfl 1 (by decide) (hts (.fieldLink RX4 127 "WagonSidings$Rake" "kind" "I") (by decide +kernel)) (fun _ h9 => h9) rfl dX4_lay_85 ?_
          refine fw_calli (va_runS (As := [.int (I 0 x), .int (I 6 j)]) (rest := []) ⟨hx, hb, hml, hown, hts⟩ (c_X4_isOf l D kk _ (I 0 x) (I 6 j) _) (va_cwS 2 hts gX4_lay_X4_isOf rfl rfl rfl (by decide +kernel) ⟨Nat.le_of_ble_eq_true rfl, Nat.le_of_ble_eq_true rfl⟩) (fw_preS hK hP) rfl rfl hl.1 rfl (lv_room (Nat.le_of_ble_eq_true rfl)) dX4_lay_88 ⟨Nat.le_of_ble_eq_true rfl, Nat.le_of_ble_eq_true rfl⟩) hD hS hA (fun r w1 H locs hq hP hD hS => ?_)
          obtain ⟨rfl, rfl⟩ := hq
          by_cases hb2 : isOf (I 0 x) (I 6 j)
          · rw [pif_t hb2]
            refine lv_if_ne (tgt := 102) hx hb dX4_lay_91 (by decide) (fun _ => ?_) (fun c9 => absurd c9 (by decide))
            have hof := hb2
            refine lv_aload_n hx hb dX4_lay_102 rfl (lv_at hl 5 rfl) ?_
            refine fw_get (v := .ref (ad 8 j)) (C := RX0) (T := TX0) (N := 4) hx hb hts in0 hown hK hP (x_at7 hj hj4) rfl 3 (by decide) (hts (.fieldLink RX4 128 "WagonSidings$Rake" "row" "[LWagonSidings$Wagon;") (by decide +kernel)) (fun _ h9 => h9) rfl dX4_lay_103 ?_
            refine lv_iload hx hb dX4_lay_106 (lv_at hl 1 rfl) ?_
            refine lv_aload hx hb dX4_lay_108 (lv_at hl 0 rfl) ?_
            refine fw_astq (w1 := xw kk ad n I (upO Q (2 + j) d (some x))) hx hb hK hP hD hS 1 3 (x_at8 hj hj4) rfl (x_at5 hj hx0) rfl (vp_in_nI hd (by decide)) dX4_lay_110 (by rw [nI_clamp (by omega)]; exact x_row (o := some x) hj hj4 hd) (fun H locs hP hD hS => ?_)
            obtain ⟨Q2, hQ2⟩ : ∃ z, z = upO Q (2 + j) d (some x) := ⟨_, rfl⟩
            rw [← hQ2] at hP hD
            have hI2 : xI n Q2 := by rw [hQ2]; exact xI_row hIQ (by omega) hx0
            have hQ0 : Q2 0 x = Q 0 x := by rw [hQ2]; exact upO_n (by omega)
            refine lv_iinc (v := nI (d + 1)) (lv' := [(5, .int (nI (d + 1))), (6, .ref (ad 5 x)), (0, .ref (ad 0 0)), (1, .int r0), (2, .int t), (3, .ref (ad 7 j)), (4, .ref (ad 6 k))]) hx hb dX4_lay_111 hl (k := 1) rfl (nI_1 d) (by decide) rfl (fun ls hl => ?_)
            refine lv_aload hx hb dX4_lay_114 (lv_at hl 1 rfl) ?_
            rcases oc (Q2 0 x) with ho3 | ⟨j4, ho3⟩
            · refine fw_get (v := .null) (C := RX3) (T := TX3) (N := 6) hx hb hts in3 hown hK hP (x_at5 hj hx0) rfl 3 (by decide) (hts (.fieldLink RX4 51 "WagonSidings$Wagon" "behind" "LWagonSidings$Wagon;") (by decide +kernel)) (fun _ h9 => h9) (by rw [ho3]; rfl) dX4_lay_116 ?_
              refine lv_astoreN (lv' := [(6, .null), (5, .int (nI (d + 1))), (0, .ref (ad 0 0)), (1, .int r0), (2, .int t), (3, .ref (ad 7 j)), (4, .ref (ad 6 k))]) hx hb dX4_lay_119 hl (by decide) rfl (fun ls hl => ?_)
              refine lv_goto (tgt := 57) hx hb dX4_lay_121 (by decide) ?_
              exact ih (d + 1) none Q2 H locs ls (by omega) (by omega) (fun x q => by cases q) hI2 (by rw [← hly, ly_go hlt hof, ← hQ2, ← hQ0, ho3]) hP hD hS (lv_sub hl [0, 1, 2, 3, 4, 5, 6] rfl)
            · have hj4 := (hI2.2.1 _ _ _ ho3)
              refine fw_get (v := .ref (ad 5 j4)) (C := RX3) (T := TX3) (N := 6) hx hb hts in3 hown hK hP (x_at5 hj hx0) rfl 3 (by decide) (hts (.fieldLink RX4 51 "WagonSidings$Wagon" "behind" "LWagonSidings$Wagon;") (by decide +kernel)) (fun _ h9 => h9) (by rw [ho3]; rfl) dX4_lay_116 ?_
              refine lv_astore (lv' := [(6, .ref (ad 5 j4)), (5, .int (nI (d + 1))), (0, .ref (ad 0 0)), (1, .int r0), (2, .int t), (3, .ref (ad 7 j)), (4, .ref (ad 6 k))]) hx hb dX4_lay_119 hl (by decide) rfl (fun ls hl => ?_)
              refine lv_goto (tgt := 57) hx hb dX4_lay_121 (by decide) ?_
              exact ih (d + 1) (some j4) Q2 H locs ls (by omega) (by omega) (fun x q => by cases q; exact hj4) hI2 (by rw [← hly, ly_go hlt hof, ← hQ2, ← hQ0, ho3]) hP hD hS (lv_sub hl [0, 1, 2, 3, 4, 5, 6] rfl)
          · rw [pif_f hb2]
            refine lv_if_ne (tgt := 102) hx hb dX4_lay_91 (by decide) (fun c9 => absurd c9 (by decide)) (fun _ => ?_)
            have hof := hb2
            refine lv_aload_n hx hb dX4_lay_94 rfl (lv_at hl 2 rfl) ?_
            refine lv_iconst (v := 5) hx hb dX4_lay_95 (by decide) ?_
            refine lv_iload hx hb dX4_lay_96 (lv_at hl 1 rfl) ?_
            refine fw_calli (va_runV (As := [.int 5, .int (nI d)]) (rest := []) ⟨hx, hb, hml, hown, hts⟩ (c_X4_fail l D kk ad n I Q hj hIQ 5 (nI d) _) (cwV 2 hts gX4_lay_X4_fail rfl rfl rfl (by decide +kernel) ⟨Nat.le_of_ble_eq_true rfl, Nat.le_of_ble_eq_true rfl⟩) (fw_preV hK hP (ci := 4) rfl (x_at0 hj)) rfl rfl hl.1 rfl (lv_room (Nat.le_of_ble_eq_true rfl)) dX4_lay_98 ⟨Nat.le_of_ble_eq_true rfl, Nat.le_of_ble_eq_true rfl⟩) hD hS hA (fun r w1 H locs hq hP hD hS => ?_)
            obtain ⟨rfl, rfl⟩ := hq
            exact fw_iret hx hb hr hlocks hK hP hD hS dX4_lay_101 ⟨_, _, sp_lay_bad h4 h6 h5 h1 (by decide) (hly.symm.trans (ly_5 hlt hof)), rfl⟩
        · rw [pif_f hb1]
          refine lv_if_ne (tgt := 79) hx hb dX4_lay_68 (by decide) (fun c9 => absurd c9 (by decide)) (fun _ => ?_)
          have hlt : ¬ nI d < I 7 j := fun z => (rk_no hY h5 hb1).elim (nI_pos (by omega)) (fun q => q z)
          refine lv_aload_n hx hb dX4_lay_71 rfl (lv_at hl 2 rfl) ?_
          refine lv_iconst (v := 3) hx hb dX4_lay_72 (by decide) ?_
          refine lv_iload hx hb dX4_lay_73 (lv_at hl 1 rfl) ?_
          refine fw_calli (va_runV (As := [.int 3, .int (nI d)]) (rest := []) ⟨hx, hb, hml, hown, hts⟩ (c_X4_fail l D kk ad n I Q hj hIQ 3 (nI d) _) (cwV 2 hts gX4_lay_X4_fail rfl rfl rfl (by decide +kernel) ⟨Nat.le_of_ble_eq_true rfl, Nat.le_of_ble_eq_true rfl⟩) (fw_preV hK hP (ci := 4) rfl (x_at0 hj)) rfl rfl hl.1 rfl (lv_room (Nat.le_of_ble_eq_true rfl)) dX4_lay_75 ⟨Nat.le_of_ble_eq_true rfl, Nat.le_of_ble_eq_true rfl⟩) hD hS hA (fun r w1 H locs hq hP hD hS => ?_)
          obtain ⟨rfl, rfl⟩ := hq
          exact fw_iret hx hb hr hlocks hK hP hD hS dX4_lay_78 ⟨_, _, sp_lay_bad h4 h6 h5 h1 (by decide) (hly.symm.trans (ly_3 hlt)), rfl⟩
  refine lv_aload_n hx hb dX4_lay_0 rfl (lv_at hl 0 rfl) ?_
  refine lv_iload_n hx hb dX4_lay_1 rfl (lv_at hl 1 rfl) ?_
  refine fw_callq (va_runV (As := [.int r0]) (rest := []) ⟨hx, hb, hml, hown, hts⟩ (c_X4_findRake l D kk ad n I O hj hI r0 _) (cwV 1 hts gX4_lay_X4_findRake rfl rfl rfl (by decide +kernel) ⟨Nat.le_of_ble_eq_true rfl, Nat.le_of_ble_eq_true rfl⟩) (fw_preV hK hP (ci := 4) rfl (x_at0 hj)) rfl rfl hl.1 rfl (lv_room (Nat.le_of_ble_eq_true rfl)) dX4_lay_2 ⟨Nat.le_of_ble_eq_true rfl, Nat.le_of_ble_eq_true rfl⟩) hD hS hA (fun r w1 H locs hq hP hD hS => ?_)
  obtain ⟨rfl, rfl⟩ := hq
  rcases oc (fnd 4 r0) with hf5 | ⟨i6, hf5⟩
  · refine W.eq (g2 := F0 m 5 ls [.null]) (by rw [hf5]; rfl) ?_
    refine lv_astore_nN (lv' := [(3, .null), (0, .ref (ad 0 0)), (1, .int r0), (2, .int t)]) hx hb dX4_lay_5 rfl hl (by decide) rfl (fun ls hl => ?_)
    refine lv_aload_n hx hb dX4_lay_6 rfl (lv_at hl 1 rfl) ?_
    refine lv_iload_n hx hb dX4_lay_7 rfl (lv_at hl 3 rfl) ?_
    refine fw_callq (va_runV (As := [.int t]) (rest := []) ⟨hx, hb, hml, hown, hts⟩ (c_X4_findTrack l D kk ad n I O hj hI t _) (cwV 1 hts gX4_lay_X4_findTrack rfl rfl rfl (by decide +kernel) ⟨Nat.le_of_ble_eq_true rfl, Nat.le_of_ble_eq_true rfl⟩) (fw_preV hK hP (ci := 4) rfl (x_at0 hj)) rfl rfl hl.1 rfl (lv_room (Nat.le_of_ble_eq_true rfl)) dX4_lay_8 ⟨Nat.le_of_ble_eq_true rfl, Nat.le_of_ble_eq_true rfl⟩) hD hS hA (fun r w1 H locs hq hP hD hS => ?_)
    obtain ⟨rfl, rfl⟩ := hq
    rcases oc (fnd 6 t) with hf7 | ⟨i8, hf7⟩
    · refine W.eq (g2 := F0 m 11 ls [.null]) (by rw [hf7]; rfl) ?_
      refine lv_astoreN (lv' := [(4, .null), (3, .null), (0, .ref (ad 0 0)), (1, .int r0), (2, .int t)]) hx hb dX4_lay_11 hl (by decide) rfl (fun ls hl => ?_)
      refine lv_aload_nN hx hb dX4_lay_13 rfl (lv_at hl 1 rfl) ?_
      refine lv_ifnullN (tgt := 22) hx hb dX4_lay_14 (by decide) ?_
      refine lv_bipush (v := (-101)) hx hb dX4_lay_22 (by decide) ?_
      exact fw_iret hx hb hr hlocks hK hP hD hS dX4_lay_24 ⟨_, _, by simp [sp_lay, pif_True, pif_False, hf5, hf7], rfl⟩
    · have hi8 := (fnd_lt hf7).1
      refine W.eq (g2 := F0 m 11 ls [.ref (ad 6 i8)]) (by rw [hf7]; rfl) ?_
      refine lv_astore (lv' := [(4, .ref (ad 6 i8)), (3, .null), (0, .ref (ad 0 0)), (1, .int r0), (2, .int t)]) hx hb dX4_lay_11 hl (by decide) rfl (fun ls hl => ?_)
      refine lv_aload_nN hx hb dX4_lay_13 rfl (lv_at hl 1 rfl) ?_
      refine lv_ifnullN (tgt := 22) hx hb dX4_lay_14 (by decide) ?_
      refine lv_bipush (v := (-101)) hx hb dX4_lay_22 (by decide) ?_
      exact fw_iret hx hb hr hlocks hK hP hD hS dX4_lay_24 ⟨_, _, by simp [sp_lay, pif_True, pif_False, hf5, hf7], rfl⟩
  · have hi6 := (fnd_lt hf5).1
    refine W.eq (g2 := F0 m 5 ls [.ref (ad 7 i6)]) (by rw [hf5]; rfl) ?_
    refine lv_astore_n (lv' := [(3, .ref (ad 7 i6)), (0, .ref (ad 0 0)), (1, .int r0), (2, .int t)]) hx hb dX4_lay_5 rfl hl (by decide) rfl (fun ls hl => ?_)
    refine lv_aload_n hx hb dX4_lay_6 rfl (lv_at hl 1 rfl) ?_
    refine lv_iload_n hx hb dX4_lay_7 rfl (lv_at hl 3 rfl) ?_
    refine fw_callq (va_runV (As := [.int t]) (rest := []) ⟨hx, hb, hml, hown, hts⟩ (c_X4_findTrack l D kk ad n I O hj hI t _) (cwV 1 hts gX4_lay_X4_findTrack rfl rfl rfl (by decide +kernel) ⟨Nat.le_of_ble_eq_true rfl, Nat.le_of_ble_eq_true rfl⟩) (fw_preV hK hP (ci := 4) rfl (x_at0 hj)) rfl rfl hl.1 rfl (lv_room (Nat.le_of_ble_eq_true rfl)) dX4_lay_8 ⟨Nat.le_of_ble_eq_true rfl, Nat.le_of_ble_eq_true rfl⟩) hD hS hA (fun r w1 H locs hq hP hD hS => ?_)
    obtain ⟨rfl, rfl⟩ := hq
    rcases oc (fnd 6 t) with hf9 | ⟨i10, hf9⟩
    · refine W.eq (g2 := F0 m 11 ls [.null]) (by rw [hf9]; rfl) ?_
      refine lv_astoreN (lv' := [(4, .null), (3, .ref (ad 7 i6)), (0, .ref (ad 0 0)), (1, .int r0), (2, .int t)]) hx hb dX4_lay_11 hl (by decide) rfl (fun ls hl => ?_)
      refine lv_aload_n hx hb dX4_lay_13 rfl (lv_at hl 1 rfl) ?_
      refine lv_ifnull hx hb dX4_lay_14 ?_
      refine lv_aloadN hx hb dX4_lay_17 (lv_at hl 0 rfl) ?_
      refine lv_ifnonnullN hx hb dX4_lay_19 ?_
      refine lv_bipush (v := (-101)) hx hb dX4_lay_22 (by decide) ?_
      exact fw_iret hx hb hr hlocks hK hP hD hS dX4_lay_24 ⟨_, _, by simp [sp_lay, pif_True, pif_False, hf5, hf9], rfl⟩
    · have hi10 := (fnd_lt hf9).1
      refine W.eq (g2 := F0 m 11 ls [.ref (ad 6 i10)]) (by rw [hf9]; rfl) ?_
      refine lv_astore (lv' := [(4, .ref (ad 6 i10)), (3, .ref (ad 7 i6)), (0, .ref (ad 0 0)), (1, .int r0), (2, .int t)]) hx hb dX4_lay_11 hl (by decide) rfl (fun ls hl => ?_)
      refine lv_aload_n hx hb dX4_lay_13 rfl (lv_at hl 1 rfl) ?_
      refine lv_ifnull hx hb dX4_lay_14 ?_
      refine lv_aload hx hb dX4_lay_17 (lv_at hl 0 rfl) ?_
      refine lv_ifnonnull (tgt := 25) hx hb dX4_lay_19 (by decide) ?_
      refine lv_aload_n hx hb dX4_lay_25 rfl (lv_at hl 1 rfl) ?_
      refine fw_get (v := .int (I 5 i6)) (C := RX0) (T := TX0) (N := 4) hx hb hts in0 hown hK hP (x_at7 hj hi6) rfl 0 (by decide) (hts (.fieldLink RX4 121 "WagonSidings$Rake" "made" "Z") (by decide +kernel)) (fun _ h9 => h9) rfl dX4_lay_26 ?_
      refine lv_if_eq (tgt := 40) hx hb dX4_lay_29 (by decide) (fun c_29 => ?_) (fun c_29 => ?_)
      · refine lv_aload_n hx hb dX4_lay_40 rfl (lv_at hl 2 rfl) ?_
        refine lv_iconst (v := 1) hx hb dX4_lay_41 (by decide) ?_
        refine lv_iconst (v := 0) hx hb dX4_lay_42 (by decide) ?_
        refine fw_calli (va_runV (As := [.int 1, .int 0]) (rest := []) ⟨hx, hb, hml, hown, hts⟩ (c_X4_fail l D kk ad n I O hj hI 1 0 _) (cwV 2 hts gX4_lay_X4_fail rfl rfl rfl (by decide +kernel) ⟨Nat.le_of_ble_eq_true rfl, Nat.le_of_ble_eq_true rfl⟩) (fw_preV hK hP (ci := 4) rfl (x_at0 hj)) rfl rfl hl.1 rfl (lv_room (Nat.le_of_ble_eq_true rfl)) dX4_lay_43 ⟨Nat.le_of_ble_eq_true rfl, Nat.le_of_ble_eq_true rfl⟩) hD hS hA (fun r w1 H locs hq hP hD hS => ?_)
        obtain ⟨rfl, rfl⟩ := hq
        exact fw_iret hx hb hr hlocks hK hP hD hS dX4_lay_46 ⟨_, _, by simp [sp_lay, pif_True, pif_False, hf5, hf9, eq_true c_29], rfl⟩
      · refine lv_aload hx hb dX4_lay_32 (lv_at hl 0 rfl) ?_
        rcases oc (O 1 i10) with ho11 | ⟨j12, ho11⟩
        · refine fw_get (v := .null) (C := RX2) (T := TX2) (N := 2) hx hb hts in2 hown hK hP (x_at6 hj hi10) rfl 0 (by decide) (hts (.fieldLink RX4 70 "WagonSidings$Track" "first" "LWagonSidings$Wagon;") (by decide +kernel)) (fun _ h9 => h9) (by rw [ho11]; rfl) dX4_lay_34 ?_
          refine lv_ifnonnullN hx hb dX4_lay_37 ?_
          refine lv_aload_n hx hb dX4_lay_40 rfl (lv_at hl 2 rfl) ?_
          refine lv_iconst (v := 1) hx hb dX4_lay_41 (by decide) ?_
          refine lv_iconst (v := 0) hx hb dX4_lay_42 (by decide) ?_
          refine fw_calli (va_runV (As := [.int 1, .int 0]) (rest := []) ⟨hx, hb, hml, hown, hts⟩ (c_X4_fail l D kk ad n I O hj hI 1 0 _) (cwV 2 hts gX4_lay_X4_fail rfl rfl rfl (by decide +kernel) ⟨Nat.le_of_ble_eq_true rfl, Nat.le_of_ble_eq_true rfl⟩) (fw_preV hK hP (ci := 4) rfl (x_at0 hj)) rfl rfl hl.1 rfl (lv_room (Nat.le_of_ble_eq_true rfl)) dX4_lay_43 ⟨Nat.le_of_ble_eq_true rfl, Nat.le_of_ble_eq_true rfl⟩) hD hS hA (fun r w1 H locs hq hP hD hS => ?_)
          obtain ⟨rfl, rfl⟩ := hq
          exact fw_iret hx hb hr hlocks hK hP hD hS dX4_lay_46 ⟨_, _, by simp [sp_lay, pif_True, pif_False, hf5, hf9, c_29, ho11], rfl⟩
        · have hj12 := (hI.2.1 _ _ _ ho11)
          refine fw_get (v := .ref (ad 5 j12)) (C := RX2) (T := TX2) (N := 2) hx hb hts in2 hown hK hP (x_at6 hj hi10) rfl 0 (by decide) (hts (.fieldLink RX4 70 "WagonSidings$Track" "first" "LWagonSidings$Wagon;") (by decide +kernel)) (fun _ h9 => h9) (by rw [ho11]; rfl) dX4_lay_34 ?_
          refine lv_ifnonnull (tgt := 47) hx hb dX4_lay_37 (by decide) ?_
          refine lv_iconst (v := 0) hx hb dX4_lay_47 (by decide) ?_
          refine lv_istore (lv' := [(5, .int 0), (4, .ref (ad 6 i10)), (3, .ref (ad 7 i6)), (0, .ref (ad 0 0)), (1, .int r0), (2, .int t)]) hx hb dX4_lay_48 hl (by decide) rfl (fun ls hl => ?_)
          refine lv_aload hx hb dX4_lay_50 (lv_at hl 1 rfl) ?_
          refine fw_get (v := .ref (ad 5 j12)) (C := RX2) (T := TX2) (N := 2) hx hb hts in2 hown hK hP (x_at6 hj hi10) rfl 0 (by decide) (hts (.fieldLink RX4 70 "WagonSidings$Track" "first" "LWagonSidings$Wagon;") (by decide +kernel)) (fun _ h9 => h9) (by rw [ho11]; rfl) dX4_lay_52 ?_
          refine lv_astore (lv' := [(6, .ref (ad 5 j12)), (5, .int 0), (4, .ref (ad 6 i10)), (3, .ref (ad 7 i6)), (0, .ref (ad 0 0)), (1, .int r0), (2, .int t)]) hx hb dX4_lay_55 hl (by decide) rfl (fun ls hl => ?_)
          exact loop i6 i10 hi6 hi10 hf5 hf9 c_29 (by rw [ho11]; exact Option.some_ne_none _) 13 0 (some j12) O _ _ ls rfl (by decide) (fun x q => by cases q; exact hj12) hI (by rw [ho11]) hP hD hS (lv_sub hl [0, 1, 4, 5, 6, 3, 2] rfl)
