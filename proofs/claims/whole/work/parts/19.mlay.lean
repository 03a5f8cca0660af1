set_option maxHeartbeats 4000000 in
set_option maxRecDepth 100000 in
theorem c_X5_lay (l : Launch) (D : va_G) (kk : Nat → ClassId) (ad : Nat → Nat → Nat) (n : Nat) (I : sI) (O : sO) (J : sI) (hj : sj mV ad) (hY : yI n I O) (hR : mR n I O J) (r0 t : Int32) : fw_Mi l yX5_lay wsX5_lay { frames := 2, cells := 0, slots := 0, locals := 44 } 0 0 D vwCl (xT kk) (mw kk ad J) [.ref (ad 0 0), .int r0, .int t] (fun r w1 => ∃ I1 O1 J1, sp_lay I O r0 t = (r, I1, O1) ∧ mR n I1 O1 J1 ∧ w1 = mw kk ad J1) := by
  refine fw_ofi (cc := cX5_lay) (maxL := 5) (ret := (some .int)) (by decide) rfl (Nat.le_of_ble_eq_true rfl) ?_
  intro p e s m args below meth c A ls hx hb hml hr hlocks hnm hts hown hK hP hD hA hS hl
  have hown : s.vm.findClass RX5 = some m.cls := hown
  have hl : lv_has ls 5 [(0, .ref (ad 0 0)), (1, .int r0), (2, .int t)] := hl
  have in5 : ∀ w ∈ u_ws RX5 TX5 15, w ∈ wsX5_lay := by decide +kernel
  have hn40 := hY.1.1
  have loop : ∀ (rr k c1 : Nat), rr < 4 → k < 6 → c1 ≤ 12 → fnd 4 (nI rr) = some rr → fnd 6 (nI k) = some k → ¬ I 5 rr = 0 → ¬ O 1 k = none → I 7 rr = nI c1 → ∀ (f d : Nat) (o : Option Nat) (Q : sO) (K : sI) (H : Heap) (locs : List Loc) (ls : Array Slot), d + f = 13 → d ≤ c1 → (∀ y, o = some y → y < n) → xI n Q → mR n I Q K → ly I rr f d o Q = ly I rr 13 0 (O 1 k) O → fw_P D vwCl (mw kk ad K) H → fw_D A (mw kk ad K) → va_S A s.heap H locs → lv_has ls 5 [(4, .int (num o)), (3, .int (nI d)), (0, .ref (ad 0 0)), (1, .int (nI rr)), (2, .int (nI k))] → W p l e { frames := 2, cells := 0, slots := 0, locals := 44 } s m args below meth c H locs 0 0 (MQ below (va_Qi (fun r w1 => ∃ I1 O1 J1, sp_lay I O (nI rr) (nI k) = (r, I1, O1) ∧ mR n I1 O1 J1 ∧ w1 = mw kk ad J1) (fw_B D vwCl (xT kk) A) A) args s 0 0 A) (F0 m 54 ls []) := by
    intro rr k c1 hr4 hk6 hc12 h4 h6 h5 h1 h7 f
    induction f with
    | zero =>
      intro d o Q K H locs ls hdf hdc
      omega
    | succ f ih =>
      intro d o Q K H locs ls hdf hdc hro hIQ hRQ hly hP hD hS hl
      rcases o with _ | y
      · have hl : lv_has ls 5 [(4, .int (-1)), (3, .int (nI d)), (0, .ref (ad 0 0)), (1, .int (nI rr)), (2, .int (nI k))] := hl
        refine lv_iload hx hb dX5_lay_54 (lv_at hl 0 rfl) ?_
        refine lv_iconst (v := (-1)) hx hb dX5_lay_56 (by decide) ?_
        refine lv_icmp_eq (tgt := 131) hx hb dX5_lay_57 (by decide) (fun _ => ?_) (fun c9 => absurd rfl c9)
        refine lv_aload_n hx hb dX5_lay_131 rfl (lv_at hl 2 rfl) ?_
        refine lv_iload_n hx hb dX5_lay_132 rfl (lv_at hl 1 rfl) ?_
        refine lv_iload_n hx hb dX5_lay_133 rfl (lv_at hl 1 rfl) ?_
        refine fw_calli (va_runV (As := [.int (nI d), .int (nI d)]) (rest := []) ⟨hx, hb, hml, hown, hts⟩ (c_X5_well l D kk ad K hj (nI d) (nI d) _) (cwV 2 hts gX5_lay_X5_well rfl rfl rfl (by decide +kernel) ⟨Nat.le_of_ble_eq_true rfl, Nat.le_of_ble_eq_true rfl⟩) (fw_preV hK hP (ci := 5) rfl (m_at0 hj)) rfl rfl hl.1 rfl (lv_room (Nat.le_of_ble_eq_true rfl)) dX5_lay_134 ⟨Nat.le_of_ble_eq_true rfl, Nat.le_of_ble_eq_true rfl⟩) hD hS hA (fun r w1 H locs hq hP hD hS => ?_)
        obtain ⟨rfl, rfl⟩ := hq
        exact fw_iret hx hb hr hlocks hK hP hD hS dX5_lay_137 ⟨_, _, _, sp_lay_ok h4 h6 h5 h1 (hly.symm.trans ly_end), mR_tell hRQ, rfl⟩
      · have hy0 := hro y rfl
        have hl : lv_has ls 5 [(4, .int (nI y)), (3, .int (nI d)), (0, .ref (ad 0 0)), (1, .int (nI rr)), (2, .int (nI k))] := hl
        refine lv_iload hx hb dX5_lay_54 (lv_at hl 0 rfl) ?_
        refine lv_iconst (v := (-1)) hx hb dX5_lay_56 (by decide) ?_
        refine lv_icmp_eq (tgt := 131) hx hb dX5_lay_57 (by decide) (fun c9 => absurd c9 (nI_m1 (by omega))) (fun _ => ?_)
        refine lv_iload_n hx hb dX5_lay_60 rfl (lv_at hl 1 rfl) ?_
        refine lv_aload_n hx hb dX5_lay_61 rfl (lv_at hl 2 rfl) ?_
        refine fw_get (v := .ref (ad 6 0)) (C := RX5) (T := TX5) (N := 15) hx hb hts in5 hown hK hP (m_at0 hj) rfl 6 (by decide) (hts (.fieldLink RX5 25 "WagonSidingsModel" "rakeLong" "[I") (by decide +kernel)) (fun _ h9 => h9) rfl dX5_lay_62 ?_
        refine lv_iload_n hx hb dX5_lay_65 rfl (lv_at hl 3 rfl) ?_
        refine fw_iald hx hb hK hP 0 (m_at6 hj) rfl (vp_in_nI (by omega) (by decide)) dX5_lay_66 ?_
        refine W.eq (g2 := F0 m 67 ls [.int (nI c1), .int (nI d)]) (by rw [nI_clamp (by omega), hRQ.2.2.2.2.2.2.1 _ (by omega), pif_f h5, h7]) ?_
        refine lv_icmp_ne (tgt := 77) hx hb dX5_lay_67 (by decide) (fun c_67 => ?_) (fun c_67 => ?_)
        · have hdc1 : d < c1 := by rcases Nat.lt_or_ge d c1 with z | z; exact z; exact absurd (by rw [show d = c1 by omega]) c_67
          have hlt : nI d < I 7 rr := by rw [h7]; exact nI_lt hdc1 (by omega)
          refine lv_aload_n hx hb dX5_lay_77 rfl (lv_at hl 2 rfl) ?_
          refine fw_get (v := .ref (ad 1 0)) (C := RX5) (T := TX5) (N := 15) hx hb hts in5 hown hK hP (m_at0 hj) rfl 1 (by decide) (hts (.fieldLink RX5 7 "WagonSidingsModel" "kind" "[I") (by decide +kernel)) (fun _ h9 => h9) rfl dX5_lay_78 ?_
          refine lv_iload hx hb dX5_lay_81 (lv_at hl 0 rfl) ?_
          refine fw_iald hx hb hK hP 0 (m_at1 hj) rfl (vp_in_nI (by omega) (by decide)) dX5_lay_83 ?_
          refine W.eq (g2 := F0 m 84 ls [.int (I 0 y)]) (by rw [nI_clamp (by omega), hRQ.2.1 _ (by omega)]) ?_
          refine lv_aload_n hx hb dX5_lay_84 rfl (lv_at hl 2 rfl) ?_
          refine fw_get (v := .ref (ad 7 0)) (C := RX5) (T := TX5) (N := 15) hx hb hts in5 hown hK hP (m_at0 hj) rfl 7 (by decide) (hts (.fieldLink RX5 28 "WagonSidingsModel" "rakeKind" "[I") (by decide +kernel)) (fun _ h9 => h9) rfl dX5_lay_85 ?_
          refine lv_iload_n hx hb dX5_lay_88 rfl (lv_at hl 3 rfl) ?_
          refine fw_iald hx hb hK hP 0 (m_at7 hj) rfl (vp_in_nI (by omega) (by decide)) dX5_lay_89 ?_
          refine W.eq (g2 := F0 m 90 ls [.int (I 6 rr), .int (I 0 y)]) (by rw [nI_clamp (by omega), hRQ.2.2.2.2.2.2.2.1 _ (by omega)]) ?_
          refine fw_calli (va_runS (As := [.int (I 0 y), .int (I 6 rr)]) (rest := []) ⟨hx, hb, hml, hown, hts⟩ (c_X5_isOf l D kk _ (I 0 y) (I 6 rr) _) (va_cwS 2 hts gX5_lay_X5_isOf rfl rfl rfl (by decide +kernel) ⟨Nat.le_of_ble_eq_true rfl, Nat.le_of_ble_eq_true rfl⟩) (fw_preS hK hP) rfl rfl hl.1 rfl (lv_room (Nat.le_of_ble_eq_true rfl)) dX5_lay_90 ⟨Nat.le_of_ble_eq_true rfl, Nat.le_of_ble_eq_true rfl⟩) hD hS hA (fun r w1 H locs hq hP hD hS => ?_)
          obtain ⟨rfl, rfl⟩ := hq
          by_cases hb1 : isOf (I 0 y) (I 6 rr)
          · rw [pif_t hb1]
            refine lv_if_ne (tgt := 103) hx hb dX5_lay_93 (by decide) (fun _ => ?_) (fun c9 => absurd c9 (by decide))
            have hof := hb1
            refine lv_aload_n hx hb dX5_lay_103 rfl (lv_at hl 2 rfl) ?_
            refine fw_get (v := .ref (ad 8 0)) (C := RX5) (T := TX5) (N := 15) hx hb hts in5 hown hK hP (m_at0 hj) rfl 8 (by decide) (hts (.fieldLink RX5 31 "WagonSidingsModel" "rake" "[I") (by decide +kernel)) (fun _ h9 => h9) rfl dX5_lay_104 ?_
            refine lv_bipush (v := 12) hx hb dX5_lay_107 (by decide) ?_
            refine lv_iload_n hx hb dX5_lay_109 rfl (lv_at hl 3 rfl) ?_
            refine lv_imul hx hb dX5_lay_110 ?_
            refine W.eq (g2 := F0 m 111 ls [.int (nI (12 * rr)), .ref (ad 8 0)]) (by rw [show (12 : Int32) = nI 12 from rfl, pk_mul]) ?_
            refine lv_iload_n hx hb dX5_lay_111 rfl (lv_at hl 1 rfl) ?_
            refine lv_iadd hx hb dX5_lay_112 ?_
            refine W.eq (g2 := F0 m 113 ls [.int (nI (12 * rr + d)), .ref (ad 8 0)]) (by rw [nI_add]) ?_
            refine lv_iload hx hb dX5_lay_113 (lv_at hl 0 rfl) ?_
            refine fw_iast (w1 := mw kk ad (upI K 8 (12 * rr + d) (nI y))) hx hb hK hP hD hS 0 (m_at8 hj) rfl (vp_in_nI (by omega) (by decide)) dX5_lay_115 (by rw [nI_clamp (by omega)]; exact m_st (k := 8) (by omega) hj) (fun H locs hP hD hS => ?_)
            obtain ⟨K2, hK2⟩ : ∃ z, z = upI K 8 (12 * rr + d) (nI y) := ⟨_, rfl⟩
            obtain ⟨Q2, hQ2⟩ : ∃ z, z = upO Q (2 + rr) d (some y) := ⟨_, rfl⟩
            have hR2 : mR n I Q2 K2 := by rw [hK2, hQ2]; exact mR_place hRQ hr4 (by omega)
            have hI2 : xI n Q2 := by rw [hQ2]; exact xI_row hIQ (by omega) hy0
            have hQ0 : Q2 0 y = Q 0 y := by rw [hQ2]; exact upO_n (by omega)
            rw [← hK2] at hP hD
            refine lv_iinc (v := nI (d + 1)) (lv' := [(3, .int (nI (d + 1))), (4, .int (nI y)), (0, .ref (ad 0 0)), (1, .int (nI rr)), (2, .int (nI k))]) hx hb dX5_lay_116 hl (k := 1) rfl (nI_1 d) (by decide) rfl (fun ls hl => ?_)
            refine lv_aload_n hx hb dX5_lay_119 rfl (lv_at hl 2 rfl) ?_
            refine fw_get (v := .ref (ad 3 0)) (C := RX5) (T := TX5) (N := 15) hx hb hts in5 hown hK hP (m_at0 hj) rfl 3 (by decide) (hts (.fieldLink RX5 16 "WagonSidingsModel" "behind" "[I") (by decide +kernel)) (fun _ h9 => h9) rfl dX5_lay_120 ?_
            refine lv_iload hx hb dX5_lay_123 (lv_at hl 1 rfl) ?_
            refine fw_iald hx hb hK hP 0 (m_at3 hj) rfl (vp_in_nI (by omega) (by decide)) dX5_lay_125 ?_
            rcases oc (Q2 0 y) with ho2 | ⟨j3, ho2⟩
            · refine W.eq (g2 := F0 m 126 ls [.int (-1)]) (by rw [nI_clamp (by omega), hR2.2.2.2.1 _ (by omega), ho2]; rfl) ?_
              refine lv_istore (lv' := [(4, .int (-1)), (3, .int (nI (d + 1))), (0, .ref (ad 0 0)), (1, .int (nI rr)), (2, .int (nI k))]) hx hb dX5_lay_126 hl (by decide) rfl (fun ls hl => ?_)
              refine lv_goto (tgt := 54) hx hb dX5_lay_128 (by decide) ?_
              exact ih (d + 1) none Q2 K2 H locs ls (by omega) (by omega) (fun y q => by cases q) hI2 hR2 (by rw [← hly, ly_go hlt hof, ← hQ2, ← hQ0, ho2]) hP hD hS (lv_sub hl [0, 1, 2, 3, 4] rfl)
            · have hj3 := hI2.2.1 _ _ _ ho2
              refine W.eq (g2 := F0 m 126 ls [.int (nI j3)]) (by rw [nI_clamp (by omega), hR2.2.2.2.1 _ (by omega), ho2]; rfl) ?_
              refine lv_istore (lv' := [(4, .int (nI j3)), (3, .int (nI (d + 1))), (0, .ref (ad 0 0)), (1, .int (nI rr)), (2, .int (nI k))]) hx hb dX5_lay_126 hl (by decide) rfl (fun ls hl => ?_)
              refine lv_goto (tgt := 54) hx hb dX5_lay_128 (by decide) ?_
              exact ih (d + 1) (some j3) Q2 K2 H locs ls (by omega) (by omega) (fun y q => by cases q; exact hj3) hI2 hR2 (by rw [← hly, ly_go hlt hof, ← hQ2, ← hQ0, ho2]) hP hD hS (lv_sub hl [0, 1, 2, 3, 4] rfl)
          · rw [pif_f hb1]
            refine lv_if_ne (tgt := 103) hx hb dX5_lay_93 (by decide) (fun c9 => absurd c9 (by decide)) (fun _ => ?_)
            have hof := hb1
            refine lv_aload_n hx hb dX5_lay_96 rfl (lv_at hl 2 rfl) ?_
            refine lv_iconst (v := 5) hx hb dX5_lay_97 (by decide) ?_
            refine lv_iload_n hx hb dX5_lay_98 rfl (lv_at hl 1 rfl) ?_
            refine fw_calli (va_runV (As := [.int 5, .int (nI d)]) (rest := []) ⟨hx, hb, hml, hown, hts⟩ (c_X5_ends l D kk ad K hj 5 (nI d) _) (cwV 2 hts gX5_lay_X5_ends rfl rfl rfl (by decide +kernel) ⟨Nat.le_of_ble_eq_true rfl, Nat.le_of_ble_eq_true rfl⟩) (fw_preV hK hP (ci := 5) rfl (m_at0 hj)) rfl rfl hl.1 rfl (lv_room (Nat.le_of_ble_eq_true rfl)) dX5_lay_99 ⟨Nat.le_of_ble_eq_true rfl, Nat.le_of_ble_eq_true rfl⟩) hD hS hA (fun r w1 H locs hq hP hD hS => ?_)
            obtain ⟨rfl, rfl⟩ := hq
            exact fw_iret hx hb hr hlocks hK hP hD hS dX5_lay_102 ⟨_, _, _, sp_lay_bad h4 h6 h5 h1 (by decide) (hly.symm.trans (ly_5 hlt hof)), mR_tell hRQ, rfl⟩
        · have hlt : ¬ nI d < I 7 rr := by rw [h7, c_67]; exact nI_nlt (Nat.le_refl _) (by omega)
          refine lv_aload_n hx hb dX5_lay_70 rfl (lv_at hl 2 rfl) ?_
          refine lv_iconst (v := 3) hx hb dX5_lay_71 (by decide) ?_
          refine lv_iload_n hx hb dX5_lay_72 rfl (lv_at hl 1 rfl) ?_
          refine fw_calli (va_runV (As := [.int 3, .int (nI d)]) (rest := []) ⟨hx, hb, hml, hown, hts⟩ (c_X5_ends l D kk ad K hj 3 (nI d) _) (cwV 2 hts gX5_lay_X5_ends rfl rfl rfl (by decide +kernel) ⟨Nat.le_of_ble_eq_true rfl, Nat.le_of_ble_eq_true rfl⟩) (fw_preV hK hP (ci := 5) rfl (m_at0 hj)) rfl rfl hl.1 rfl (lv_room (Nat.le_of_ble_eq_true rfl)) dX5_lay_73 ⟨Nat.le_of_ble_eq_true rfl, Nat.le_of_ble_eq_true rfl⟩) hD hS hA (fun r w1 H locs hq hP hD hS => ?_)
          obtain ⟨rfl, rfl⟩ := hq
          exact fw_iret hx hb hr hlocks hK hP hD hS dX5_lay_76 ⟨_, _, _, sp_lay_bad h4 h6 h5 h1 (by decide) (hly.symm.trans (ly_3 hlt)), mR_tell hRQ, rfl⟩
  refine lv_iload_n hx hb dX5_lay_0 rfl (lv_at hl 1 rfl) ?_
  refine fw_calli (va_runS (As := [.int r0]) (rest := []) ⟨hx, hb, hml, hown, hts⟩ (c_X5_isRake l D kk _ r0 _) (va_cwS 1 hts gX5_lay_X5_isRake rfl rfl rfl (by decide +kernel) ⟨Nat.le_of_ble_eq_true rfl, Nat.le_of_ble_eq_true rfl⟩) (fw_preS hK hP) rfl rfl hl.1 rfl (lv_room (Nat.le_of_ble_eq_true rfl)) dX5_lay_1 ⟨Nat.le_of_ble_eq_true rfl, Nat.le_of_ble_eq_true rfl⟩) hD hS hA (fun r w1 H locs hq hP hD hS => ?_)
  obtain ⟨rfl, rfl⟩ := hq
  rcases oc (fnd 4 r0) with hf4 | ⟨i5, hf4⟩
  · refine W.eq (g2 := F0 m 4 ls [.int 0]) (by rw [hf4]; rfl) ?_
    refine lv_if_eq (tgt := 14) hx hb dX5_lay_4 (by decide) (fun _ => ?_) (fun c9 => absurd c9 (by decide))
    refine lv_bipush (v := (-101)) hx hb dX5_lay_14 (by decide) ?_
    exact fw_iret hx hb hr hlocks hK hP hD hS dX5_lay_16 ⟨_, _, _, by simp [sp_lay, pif_True, pif_False, hf4], hR, rfl⟩
  · refine W.eq (g2 := F0 m 4 ls [.int 1]) (by rw [hf4]; rfl) ?_
    obtain ⟨hi5, rfl⟩ := fnd_lt hf4
    refine lv_if_eq (tgt := 14) hx hb dX5_lay_4 (by decide) (fun c9 => absurd c9 (by decide)) (fun _ => ?_)
    refine lv_iload_n hx hb dX5_lay_7 rfl (lv_at hl 2 rfl) ?_
    refine fw_calli (va_runS (As := [.int t]) (rest := []) ⟨hx, hb, hml, hown, hts⟩ (c_X5_isTrack l D kk _ t _) (va_cwS 1 hts gX5_lay_X5_isTrack rfl rfl rfl (by decide +kernel) ⟨Nat.le_of_ble_eq_true rfl, Nat.le_of_ble_eq_true rfl⟩) (fw_preS hK hP) rfl rfl hl.1 rfl (lv_room (Nat.le_of_ble_eq_true rfl)) dX5_lay_8 ⟨Nat.le_of_ble_eq_true rfl, Nat.le_of_ble_eq_true rfl⟩) hD hS hA (fun r w1 H locs hq hP hD hS => ?_)
    obtain ⟨rfl, rfl⟩ := hq
    rcases oc (fnd 6 t) with hf6 | ⟨i7, hf6⟩
    · refine W.eq (g2 := F0 m 11 ls [.int 0]) (by rw [hf6]; rfl) ?_
      refine lv_if_ne (tgt := 17) hx hb dX5_lay_11 (by decide) (fun c9 => absurd c9 (by decide)) (fun _ => ?_)
      refine lv_bipush (v := (-101)) hx hb dX5_lay_14 (by decide) ?_
      exact fw_iret hx hb hr hlocks hK hP hD hS dX5_lay_16 ⟨_, _, _, by simp [sp_lay, pif_True, pif_False, hf4, hf6], hR, rfl⟩
    · refine W.eq (g2 := F0 m 11 ls [.int 1]) (by rw [hf6]; rfl) ?_
      obtain ⟨hi7, rfl⟩ := fnd_lt hf6
      refine lv_if_ne (tgt := 17) hx hb dX5_lay_11 (by decide) (fun _ => ?_) (fun c9 => absurd c9 (by decide))
      refine lv_aload_n hx hb dX5_lay_17 rfl (lv_at hl 0 rfl) ?_
      refine fw_get (v := .ref (ad 4 0)) (C := RX5) (T := TX5) (N := 15) hx hb hts in5 hown hK hP (m_at0 hj) rfl 4 (by decide) (hts (.fieldLink RX5 19 "WagonSidingsModel" "first" "[I") (by decide +kernel)) (fun _ h9 => h9) rfl dX5_lay_18 ?_
      refine lv_iload_n hx hb dX5_lay_21 rfl (lv_at hl 2 rfl) ?_
      refine fw_iald hx hb hK hP 0 (m_at4 hj) rfl (vp_in_nI (by omega) (by decide)) dX5_lay_22 ?_
      rcases oc (O 1 i7) with ho8 | ⟨j9, ho8⟩
      · refine W.eq (g2 := F0 m 23 ls [.int (-1)]) (by rw [nI_clamp (by omega), hR.2.2.2.2.1 _ (by omega), ho8]; rfl) ?_
        refine lv_iconst (v := (-1)) hx hb dX5_lay_23 (by decide) ?_
        refine lv_icmp_eq (tgt := 37) hx hb dX5_lay_24 (by decide) (fun _ => ?_) (fun c9 => absurd rfl c9)
        refine lv_aload_n hx hb dX5_lay_37 rfl (lv_at hl 0 rfl) ?_
        refine lv_iconst (v := 1) hx hb dX5_lay_38 (by decide) ?_
        refine lv_iconst (v := 0) hx hb dX5_lay_39 (by decide) ?_
        refine fw_calli (va_runV (As := [.int 1, .int 0]) (rest := []) ⟨hx, hb, hml, hown, hts⟩ (c_X5_ends l D kk ad J hj 1 0 _) (cwV 2 hts gX5_lay_X5_ends rfl rfl rfl (by decide +kernel) ⟨Nat.le_of_ble_eq_true rfl, Nat.le_of_ble_eq_true rfl⟩) (fw_preV hK hP (ci := 5) rfl (m_at0 hj)) rfl rfl hl.1 rfl (lv_room (Nat.le_of_ble_eq_true rfl)) dX5_lay_40 ⟨Nat.le_of_ble_eq_true rfl, Nat.le_of_ble_eq_true rfl⟩) hD hS hA (fun r w1 H locs hq hP hD hS => ?_)
        obtain ⟨rfl, rfl⟩ := hq
        exact fw_iret hx hb hr hlocks hK hP hD hS dX5_lay_43 ⟨_, _, _, by simp [sp_lay, pif_True, pif_False, hf4, hf6, ho8], mR_tell hR, rfl⟩
      · have hj9 := hY.1.2.1 _ _ _ ho8
        refine W.eq (g2 := F0 m 23 ls [.int (nI j9)]) (by rw [nI_clamp (by omega), hR.2.2.2.2.1 _ (by omega), ho8]; rfl) ?_
        refine lv_iconst (v := (-1)) hx hb dX5_lay_23 (by decide) ?_
        refine lv_icmp_eq (tgt := 37) hx hb dX5_lay_24 (by decide) (fun c9 => absurd c9 (nI_m1 (by omega))) (fun _ => ?_)
        refine lv_aload_n hx hb dX5_lay_27 rfl (lv_at hl 0 rfl) ?_
        refine fw_get (v := .ref (ad 6 0)) (C := RX5) (T := TX5) (N := 15) hx hb hts in5 hown hK hP (m_at0 hj) rfl 6 (by decide) (hts (.fieldLink RX5 25 "WagonSidingsModel" "rakeLong" "[I") (by decide +kernel)) (fun _ h9 => h9) rfl dX5_lay_28 ?_
        refine lv_iload_n hx hb dX5_lay_31 rfl (lv_at hl 1 rfl) ?_
        refine fw_iald hx hb hK hP 0 (m_at6 hj) rfl (vp_in_nI (by omega) (by decide)) dX5_lay_32 ?_
        by_cases hp10 : I 5 i5 = 0
        · refine W.eq (g2 := F0 m 33 ls [.int (-1)]) (by rw [nI_clamp (by omega), hR.2.2.2.2.2.2.1 _ (by omega), pif_t hp10]) ?_
          refine lv_iconst (v := (-1)) hx hb dX5_lay_33 (by decide) ?_
          refine lv_icmp_ne (tgt := 44) hx hb dX5_lay_34 (by decide) (fun c9 => absurd rfl c9) (fun _ => ?_)
          refine lv_aload_n hx hb dX5_lay_37 rfl (lv_at hl 0 rfl) ?_
          refine lv_iconst (v := 1) hx hb dX5_lay_38 (by decide) ?_
          refine lv_iconst (v := 0) hx hb dX5_lay_39 (by decide) ?_
          refine fw_calli (va_runV (As := [.int 1, .int 0]) (rest := []) ⟨hx, hb, hml, hown, hts⟩ (c_X5_ends l D kk ad J hj 1 0 _) (cwV 2 hts gX5_lay_X5_ends rfl rfl rfl (by decide +kernel) ⟨Nat.le_of_ble_eq_true rfl, Nat.le_of_ble_eq_true rfl⟩) (fw_preV hK hP (ci := 5) rfl (m_at0 hj)) rfl rfl hl.1 rfl (lv_room (Nat.le_of_ble_eq_true rfl)) dX5_lay_40 ⟨Nat.le_of_ble_eq_true rfl, Nat.le_of_ble_eq_true rfl⟩) hD hS hA (fun r w1 H locs hq hP hD hS => ?_)
          obtain ⟨rfl, rfl⟩ := hq
          exact fw_iret hx hb hr hlocks hK hP hD hS dX5_lay_43 ⟨_, _, _, by simp [sp_lay, pif_True, pif_False, hf4, hf6, ho8, eq_true hp10], mR_tell hR, rfl⟩
        · obtain ⟨c11, hc11, e13⟩ := hY.2.2.2.2.2.2.1 _ hp10
          refine W.eq (g2 := F0 m 33 ls [.int (nI c11)]) (by rw [nI_clamp (by omega), hR.2.2.2.2.2.2.1 _ (by omega), pif_f hp10, e13]) ?_
          refine lv_iconst (v := (-1)) hx hb dX5_lay_33 (by decide) ?_
          refine lv_icmp_ne (tgt := 44) hx hb dX5_lay_34 (by decide) (fun _ => ?_) (fun c9 => absurd c9 (nI_m1 (by omega)))
          refine lv_iconst (v := 0) hx hb dX5_lay_44 (by decide) ?_
          refine lv_istore_n (lv' := [(3, .int 0), (0, .ref (ad 0 0)), (1, .int (nI i5)), (2, .int (nI i7))]) hx hb dX5_lay_45 rfl hl (by decide) rfl (fun ls hl => ?_)
          refine lv_aload_n hx hb dX5_lay_46 rfl (lv_at hl 1 rfl) ?_
          refine fw_get (v := .ref (ad 4 0)) (C := RX5) (T := TX5) (N := 15) hx hb hts in5 hown hK hP (m_at0 hj) rfl 4 (by decide) (hts (.fieldLink RX5 19 "WagonSidingsModel" "first" "[I") (by decide +kernel)) (fun _ h9 => h9) rfl dX5_lay_47 ?_
          refine lv_iload_n hx hb dX5_lay_50 rfl (lv_at hl 3 rfl) ?_
          refine fw_iald hx hb hK hP 0 (m_at4 hj) rfl (vp_in_nI (by omega) (by decide)) dX5_lay_51 ?_
          refine W.eq (g2 := F0 m 52 ls [.int (nI j9)]) (by rw [nI_clamp (by omega), hR.2.2.2.2.1 _ (by omega), ho8]; rfl) ?_
          refine lv_istore (lv' := [(4, .int (nI j9)), (3, .int 0), (0, .ref (ad 0 0)), (1, .int (nI i5)), (2, .int (nI i7))]) hx hb dX5_lay_52 hl (by decide) rfl (fun ls hl => ?_)
          exact loop i5 i7 c11 hi5 hi7 hc11 hf4 hf6 hp10 (by rw [ho8]; exact Option.some_ne_none _) e13 13 0 (some j9) O J _ _ ls rfl (Nat.zero_le _) (fun y q => by cases q; exact hj9) hY.1 hR (by rw [ho8]) hP hD hS (lv_sub hl [0, 1, 2, 3, 4] rfl)

def pV (m : Nat) : Nat → Nat → Prop := fun k i => k ≤ m ∧ i = 0
def rfm (ad : Nat → Nat → Nat) (m j : Nat) : Value := if j ≤ m then .ref (ad j 0) else .null
def pE (kk : Nat → ClassId) (ad : Nat → Nat → Nat) (m : Nat) : Nat → Nat → va_E := fun k _ => match k with
  | 0 => .inr (5, [.int 0, rfm ad m 1, rfm ad m 2, rfm ad m 3, rfm ad m 4, rfm ad m 5, rfm ad m 6, rfm ad m 7, rfm ad m 8, rfm ad m 9, rfm ad m 10, rfm ad m 11, .int 0, .int 0, .int 0])
  | k + 1 => .inl (kk 0, mlen (k + 1), .inl (fun _ => 0))
noncomputable abbrev pw (kk : Nat → ClassId) (ad : Nat → Nat → Nat) (m : Nat) : fw_W := sw (pV m) ad (pE kk ad m)
theorem p_at {kk : Nat → ClassId} {ad : Nat → Nat → Nat} {m q : Nat} (h0 : ad 0 0 = q) (hj : sj (pV m) ad) : pw kk ad m q = some (.inr (5, [.int 0, rfm ad m 1, rfm ad m 2, rfm ad m 3, rfm ad m 4, rfm ad m 5, rfm ad m 6, rfm ad m 7, rfm ad m 8, rfm ad m 9, rfm ad m 10, rfm ad m 11, .int 0, .int 0, .int 0])) := by
  rw [← h0]
  exact sw_at hj (k := 0) (i := 0) ⟨Nat.zero_le _, rfl⟩
theorem p_start (kk : Nat → ClassId) (q : Nat) : ∃ ad : Nat → Nat → Nat, ad 0 0 = q ∧ sj (pV 0) ad ∧ fw_up (fun _ => none) q (.inr (5, [.int 0, .null, .null, .null, .null, .null, .null, .null, .null, .null, .null, .null, .int 0, .int 0, .int 0])) = pw kk ad 0 := by
  have hj : sj (pV 0) (fun _ _ => q) := by
    intro k i k' i' h1 h2 _
    obtain ⟨a1, a2⟩ := h1
    obtain ⟨b1, b2⟩ := h2
    exact ⟨by omega, by omega⟩
  refine ⟨fun _ _ => q, rfl, hj, sw_char hj ?_ ?_⟩
  · intro k i h
    obtain ⟨a1, a2⟩ := h
    obtain rfl : k = 0 := by omega
    rw [fw_up_self]
    rfl
  · intro a h
    rw [fw_up_ne (fun z => h 0 0 ⟨Nat.le_refl _, rfl⟩ z.symm)]
theorem p_step {kk : Nat → ClassId} {ad : Nat → Nat → Nat} {m q q1 N : Nat} {fs : List Value} (h0 : ad 0 0 = q) (hj : sj (pV m) ad) (hq : pw kk ad m q1 = none) (hN : mlen (m + 1) = N) (hfs : ∀ ad' : Nat → Nat → Nat, (∀ j, j ≤ m → ad' j 0 = ad j 0) → ad' (m + 1) 0 = q1 → [.int 0, rfm ad' (m + 1) 1, rfm ad' (m + 1) 2, rfm ad' (m + 1) 3, rfm ad' (m + 1) 4, rfm ad' (m + 1) 5, rfm ad' (m + 1) 6, rfm ad' (m + 1) 7, rfm ad' (m + 1) 8, rfm ad' (m + 1) 9, rfm ad' (m + 1) 10, rfm ad' (m + 1) 11, .int 0, .int 0, .int 0] = fs) :
    ∃ ad' : Nat → Nat → Nat, ad' 0 0 = q ∧ sj (pV (m + 1)) ad' ∧ fw_up (fw_up (pw kk ad m) q1 (.inl (kk 0, N, .inl (fun _ => 0)))) q (.inr (5, fs)) = pw kk ad' (m + 1) := by
  have hV : ∀ k' i', pV (m + 1) k' i' ↔ pV m k' i' ∨ (k' = m + 1 ∧ i' = 0) := by
    intro k' i'
    unfold pV
    omega
  refine ⟨sa ad (m + 1) 0 q1, (sa_ne (by omega)).trans h0, sw_sj hj hq (fun k' i' h => (hV k' i').mp h), ?_⟩
  rw [← h0]
  refine sw_new_up (k := m + 1) (i := 0) (k2 := 0) (i2 := 0) hj hq ((hV (m + 1) 0).mpr (Or.inr ⟨rfl, rfl⟩)) (fun z => by have := z.1; omega) hV ⟨Nat.zero_le _, rfl⟩ ?_ ?_ ?_
  · rw [← hN]
    rfl
  · show Sum.inr _ = Sum.inr _
    rw [hfs (sa ad (m + 1) 0 q1) (fun j hj => sa_ne (by omega)) (sa_self _ _ _ _)]
  · intro k' i' hv z
    cases k' with
    | zero => exact absurd ⟨rfl, hv.2⟩ z
    | succ k' => rfl
theorem p_end {kk : Nat → ClassId} {ad : Nat → Nat → Nat} (hj : sj (pV 11) ad) : pw kk ad 11 = mw kk ad (fun _ _ => 0) ∧ sj mV ad := by
  refine ⟨sw_ext hj (fun _ _ => Iff.rfl) (fun _ _ _ => rfl) (fun k i h => ?_), hj⟩
  cases k with
  | zero => rfl
  | succ k => rfl
/-- while the rows are filled -/
def mF (a b : Nat) (J : sI) : Prop := J 0 0 = 0 ∧ (∀ p, p < a → J 4 p = -1 ∧ J 5 p = -1) ∧ (∀ p, p < b → J 6 p = -1) ∧ (∀ p, J 7 p = 0) ∧ (∀ p, J 10 p = 0) ∧ (∀ p, J 11 p = 0) ∧ J 12 0 = 0 ∧ J 13 0 = 0 ∧ J 14 0 = 0
theorem mF_1 {d : Nat} {J : sI} (h : mF d 0 J) : mF (d + 1) 0 (upI (upI J 4 d (-1)) 5 d (-1)) := by
  obtain ⟨h0, h1, h2, h3, h4, h5, h6, h7, h8⟩ := h
  have e : ∀ k x, ¬ k = 4 → ¬ k = 5 → upI (upI J 4 d (-1)) 5 d (-1) k x = J k x := fun k x a b => by rw [upI_n (by omega), upI_n (by omega)]
  refine ⟨by rw [e 0 _ (by omega) (by omega)]; exact h0, fun p hp => ?_, fun p hp => by omega, fun p => by rw [e 7 _ (by omega) (by omega)]; exact h3 p, fun p => by rw [e 10 _ (by omega) (by omega)]; exact h4 p, fun p => by rw [e 11 _ (by omega) (by omega)]; exact h5 p, by rw [e 12 _ (by omega) (by omega)]; exact h6, by rw [e 13 _ (by omega) (by omega)]; exact h7, by rw [e 14 _ (by omega) (by omega)]; exact h8⟩
  by_cases z : p = d
  · subst z
    exact ⟨by rw [upI_n (by omega), upI_s], upI_s _ _ _ _⟩
  · rw [upI_n (by omega), upI_n (by omega), upI_n (by omega), upI_n (by omega)]
    exact h1 p (by omega)
theorem mF_2 {d : Nat} {J : sI} (h : mF 6 d J) : mF 6 (d + 1) (upI J 6 d (-1)) := by
  obtain ⟨h0, h1, h2, h3, h4, h5, h6, h7, h8⟩ := h
  have e : ∀ k x, ¬ k = 6 → upI J 6 d (-1) k x = J k x := fun k x a => upI_n (by omega)
  refine ⟨by rw [e 0 _ (by omega)]; exact h0, fun p hp => by rw [e 4 _ (by omega), e 5 _ (by omega)]; exact h1 p hp, fun p hp => ?_, fun p => by rw [e 7 _ (by omega)]; exact h3 p, fun p => by rw [e 10 _ (by omega)]; exact h4 p, fun p => by rw [e 11 _ (by omega)]; exact h5 p, by rw [e 12 _ (by omega)]; exact h6, by rw [e 13 _ (by omega)]; exact h7, by rw [e 14 _ (by omega)]; exact h8⟩
  by_cases z : p = d
  · subst z
    exact upI_s _ _ _ _
  · rw [upI_n (by omega)]
    exact h2 p (by omega)
theorem mF_end {J : sI} (h : mF 6 4 J) : mR 0 I0 O0 (upI (upI J 9 0 (-1)) 9 1 (-1)) := by
  obtain ⟨h0, h1, h2, h3, h4, h5, h6, h7, h8⟩ := h
  have e : ∀ k x, ¬ k = 9 → upI (upI J 9 0 (-1)) 9 1 (-1) k x = J k x := fun k x a => by rw [upI_n (by omega), upI_n (by omega)]
  refine ⟨by rw [e 0 _ (by omega)]; exact h0, fun i hi => by omega, fun i hi => by omega, fun i hi => by omega, fun t ht => by rw [e 4 _ (by omega)]; exact (h1 t ht).1, fun t ht => by rw [e 5 _ (by omega)]; exact (h1 t ht).2, fun r hr => by rw [e 6 _ (by omega), pif_t (show I0 5 r = 0 from rfl)]; exact h2 r hr, fun r hr => by rw [e 7 _ (by omega)]; exact h3 r, fun r i hr hi q _ => absurd rfl q, fun t ht => ?_, fun t ht => by rw [e 10 _ (by omega)]; exact h4 t, fun t c ht hc => by rw [e 11 _ (by omega), h5]; unfold I0; rw [if_neg (by omega)], by rw [e 12 _ (by omega)]; exact h6, by rw [e 13 _ (by omega)]; exact h7, by rw [e 14 _ (by omega)]; exact h8⟩
  rw [pif_t (show I0 8 t = 0 from rfl)]
  rcases (show t = 0 ∨ t = 1 by omega) with rfl | rfl
  · rw [upI_n (by omega), upI_s]
  · rw [upI_s]

set_option maxHeartbeats 4000000 in
set_option maxRecDepth 100000 in
theorem c_X5_init (l : Launch) (D : va_G) (kk : Nat → ClassId) (q : Nat) : fw_Mv l yX5_init wsX5_init { frames := 1, cells := 11, slots := 336, locals := 12 } 11 336 D vwCl (xT kk) (fw_up (fun _ => none) q (.inr (5, [.int 0, .null, .null, .null, .null, .null, .null, .null, .null, .null, .null, .null, .int 0, .int 0, .int 0]))) [.ref q] (fun w1 => ∃ ad J, ad 0 0 = q ∧ sj mV ad ∧ mR 0 I0 O0 J ∧ w1 = mw kk ad J) := by
  refine fw_ofv (cc := cX5_init) (maxL := 2) (ret := none) (by decide) rfl (Nat.le_of_ble_eq_true rfl) ?_
  intro p e s m args below meth c A ls hx hb hml hr hlocks hnm hts hown hK hP hD hA hS hl
  have hown : s.vm.findClass RX5 = some m.cls := hown
  have hnm : meth.name = "<init>" := hnm
  have hl : lv_has ls 2 [(0, .ref q)] := hl
  have in5 : ∀ w ∈ u_ws RX5 TX5 15, w ∈ wsX5_init := by decide +kernel
  have loop2 : ∀ (f d : Nat) (ad : Nat → Nat → Nat) (J : sI) (H : Heap) (locs : List Loc) (ls : Array Slot), d + f = 4 → ad 0 0 = q → sj mV ad → mF 6 d J → fw_P D vwCl (mw kk ad J) H → fw_D A (mw kk ad J) → va_S A s.heap H locs → lv_has ls 2 [(1, .int (nI d)), (0, .ref (ad 0 0))] → W p l e { frames := 1, cells := 11, slots := 336, locals := 12 } s m args below meth c H locs 11 336 (MQ below (va_Qv (fun w1 => ∃ ad J, ad 0 0 = q ∧ sj mV ad ∧ mR 0 I0 O0 J ∧ w1 = mw kk ad J) (fw_B D vwCl (xT kk) A) A) args s 11 336 A) (F0 m 119 ls []) := by
    intro f
    induction f with
    | zero =>
      intro d ad J H locs ls hdf h00 hj hF hP hD hS hl
      obtain rfl : d = 4 := by omega
      refine lv_iload_n hx hb dX5_init_119 rfl (lv_at hl 0 rfl) ?_
      refine lv_iconst (v := 4) hx hb dX5_init_120 (by decide) ?_
      refine lv_icmp_ge (tgt := 137) hx hb dX5_init_121 (by decide) (fun _ => ?_) (fun c9 => absurd (nI_le (Nat.le_refl _) (by decide)) c9)
      refine lv_aload_n hx hb dX5_init_137 rfl (lv_at hl 1 rfl) ?_
      refine fw_get (v := .ref (ad 9 0)) (C := RX5) (T := TX5) (N := 15) hx hb hts in5 hown hK hP (m_at0 hj) rfl 9 (by decide) (hts (.fieldLink RX5 34 "WagonSidingsModel" "tableLong" "[I") (by decide +kernel)) (fun _ h9 => h9) rfl dX5_init_138 ?_
      refine lv_iconst (v := 0) hx hb dX5_init_141 (by decide) ?_
      refine lv_iconst (v := (-1)) hx hb dX5_init_142 (by decide) ?_
      refine fw_iast (w1 := mw kk ad (upI J 9 0 (-1))) hx hb hK hP hD hS 0 (m_at9 hj) rfl (vp_in_nI (n := 0) (by decide) (by decide)) dX5_init_143 (m_st (k := 9) (by omega) hj) (fun H locs hP hD hS => ?_)
      refine lv_aload_n hx hb dX5_init_144 rfl (lv_at hl 1 rfl) ?_
      refine fw_get (v := .ref (ad 9 0)) (C := RX5) (T := TX5) (N := 15) hx hb hts in5 hown hK hP (m_at0 hj) rfl 9 (by decide) (hts (.fieldLink RX5 34 "WagonSidingsModel" "tableLong" "[I") (by decide +kernel)) (fun _ h9 => h9) rfl dX5_init_145 ?_
      refine lv_iconst (v := 1) hx hb dX5_init_148 (by decide) ?_
      refine lv_iconst (v := (-1)) hx hb dX5_init_149 (by decide) ?_
      refine fw_iast (w1 := mw kk ad (upI (upI J 9 0 (-1)) 9 1 (-1))) hx hb hK hP hD hS 0 (m_at9 hj) rfl (vp_in_nI (n := 1) (by decide) (by decide)) dX5_init_150 (m_st (k := 9) (by omega) hj) (fun H locs hP hD hS => ?_)
      exact fw_vret hx hb hr hlocks hK hP hD hS dX5_init_151 ⟨ad, _, h00, hj, mF_end hF, rfl⟩
    | succ f ih =>
      intro d ad J H locs ls hdf h00 hj hF hP hD hS hl
      refine lv_iload_n hx hb dX5_init_119 rfl (lv_at hl 0 rfl) ?_
      refine lv_iconst (v := 4) hx hb dX5_init_120 (by decide) ?_
      refine lv_icmp_ge (tgt := 137) hx hb dX5_init_121 (by decide) (fun c9 => absurd c9 (nI_ge (a := d) (b := 4) (by omega) (by decide))) (fun _ => ?_)
      refine lv_aload_n hx hb dX5_init_124 rfl (lv_at hl 1 rfl) ?_
      refine fw_get (v := .ref (ad 6 0)) (C := RX5) (T := TX5) (N := 15) hx hb hts in5 hown hK hP (m_at0 hj) rfl 6 (by decide) (hts (.fieldLink RX5 25 "WagonSidingsModel" "rakeLong" "[I") (by decide +kernel)) (fun _ h9 => h9) rfl dX5_init_125 ?_
      refine lv_iload_n hx hb dX5_init_128 rfl (lv_at hl 0 rfl) ?_
      refine lv_iconst (v := (-1)) hx hb dX5_init_129 (by decide) ?_
      refine fw_iast (w1 := mw kk ad (upI J 6 d (-1))) hx hb hK hP hD hS 0 (m_at6 hj) rfl (vp_in_nI (by omega) (by decide)) dX5_init_130 (by rw [nI_clamp (by omega)]; exact m_st (k := 6) (by omega) hj) (fun H locs hP hD hS => ?_)
      refine lv_iinc (v := nI (d + 1)) (lv' := [(1, .int (nI (d + 1))), (0, .ref (ad 0 0))]) hx hb dX5_init_131 hl (k := 0) rfl (nI_1 d) (by decide) rfl (fun ls hl => ?_)
      refine lv_goto (tgt := 119) hx hb dX5_init_134 (by decide) ?_
      exact ih (d + 1) ad _ H locs ls (by omega) h00 hj (mF_2 hF) hP hD hS hl
  have loop1 : ∀ (f d : Nat) (ad : Nat → Nat → Nat) (J : sI) (H : Heap) (locs : List Loc) (ls : Array Slot), d + f = 6 → ad 0 0 = q → sj mV ad → mF d 0 J → fw_P D vwCl (mw kk ad J) H → fw_D A (mw kk ad J) → va_S A s.heap H locs → lv_has ls 2 [(1, .int (nI d)), (0, .ref (ad 0 0))] → W p l e { frames := 1, cells := 11, slots := 336, locals := 12 } s m args below meth c H locs 11 336 (MQ below (va_Qv (fun w1 => ∃ ad J, ad 0 0 = q ∧ sj mV ad ∧ mR 0 I0 O0 J ∧ w1 = mw kk ad J) (fw_B D vwCl (xT kk) A) A) args s 11 336 A) (F0 m 91 ls []) := by
    intro f
    induction f with
    | zero =>
      intro d ad J H locs ls hdf h00 hj hF hP hD hS hl
      obtain rfl : d = 6 := by omega
      refine lv_iload_n hx hb dX5_init_91 rfl (lv_at hl 0 rfl) ?_
      refine lv_bipush (v := 6) hx hb dX5_init_92 (by decide) ?_
      refine lv_icmp_ge (tgt := 117) hx hb dX5_init_94 (by decide) (fun _ => ?_) (fun c9 => absurd (nI_le (Nat.le_refl _) (by decide)) c9)
      refine lv_iconst (v := 0) hx hb dX5_init_117 (by decide) ?_
      refine lv_istore_n (lv' := [(1, .int 0), (0, .ref (ad 0 0))]) hx hb dX5_init_118 rfl hl (by decide) rfl (fun ls hl => ?_)
      exact loop2 4 0 ad J H locs ls rfl h00 hj hF hP hD hS hl
    | succ f ih =>
      intro d ad J H locs ls hdf h00 hj hF hP hD hS hl
      refine lv_iload_n hx hb dX5_init_91 rfl (lv_at hl 0 rfl) ?_
      refine lv_bipush (v := 6) hx hb dX5_init_92 (by decide) ?_
      refine lv_icmp_ge (tgt := 117) hx hb dX5_init_94 (by decide) (fun c9 => absurd c9 (nI_ge (a := d) (b := 6) (by omega) (by decide))) (fun _ => ?_)
      refine lv_aload_n hx hb dX5_init_97 rfl (lv_at hl 1 rfl) ?_
      refine fw_get (v := .ref (ad 4 0)) (C := RX5) (T := TX5) (N := 15) hx hb hts in5 hown hK hP (m_at0 hj) rfl 4 (by decide) (hts (.fieldLink RX5 19 "WagonSidingsModel" "first" "[I") (by decide +kernel)) (fun _ h9 => h9) rfl dX5_init_98 ?_
      refine lv_iload_n hx hb dX5_init_101 rfl (lv_at hl 0 rfl) ?_
      refine lv_iconst (v := (-1)) hx hb dX5_init_102 (by decide) ?_
      refine fw_iast (w1 := mw kk ad (upI J 4 d (-1))) hx hb hK hP hD hS 0 (m_at4 hj) rfl (vp_in_nI (by omega) (by decide)) dX5_init_103 (by rw [nI_clamp (by omega)]; exact m_st (k := 4) (by omega) hj) (fun H locs hP hD hS => ?_)
      refine lv_aload_n hx hb dX5_init_104 rfl (lv_at hl 1 rfl) ?_
      refine fw_get (v := .ref (ad 5 0)) (C := RX5) (T := TX5) (N := 15) hx hb hts in5 hown hK hP (m_at0 hj) rfl 5 (by decide) (hts (.fieldLink RX5 22 "WagonSidingsModel" "signal" "[I") (by decide +kernel)) (fun _ h9 => h9) rfl dX5_init_105 ?_
      refine lv_iload_n hx hb dX5_init_108 rfl (lv_at hl 0 rfl) ?_
      refine lv_iconst (v := (-1)) hx hb dX5_init_109 (by decide) ?_
      refine fw_iast (w1 := mw kk ad (upI (upI J 4 d (-1)) 5 d (-1))) hx hb hK hP hD hS 0 (m_at5 hj) rfl (vp_in_nI (by omega) (by decide)) dX5_init_110 (by rw [nI_clamp (by omega)]; exact m_st (k := 5) (by omega) hj) (fun H locs hP hD hS => ?_)
      refine lv_iinc (v := nI (d + 1)) (lv' := [(1, .int (nI (d + 1))), (0, .ref (ad 0 0))]) hx hb dX5_init_111 hl (k := 0) rfl (nI_1 d) (by decide) rfl (fun ls hl => ?_)
      refine lv_goto (tgt := 91) hx hb dX5_init_114 (by decide) ?_
      exact ih (d + 1) ad _ H locs ls (by omega) h00 hj (mF_1 hF) hP hD hS hl
  refine lv_aload_n hx hb dX5_init_0 rfl (lv_at hl 0 rfl) ?_
  refine W.objInit hx hb hown (hts (.methodLink RX5 1 objectInit) (by decide +kernel)) (hts (.instanceMethod objectInit) (by decide +kernel)) (hts _ (List.mem_cons_of_mem _ (List.mem_append_left _ (List.mem_of_getElem? (i := 2) rfl)))) rfl (by rw [hml]; exact hl.1) rfl dX5_init_1 (Nat.le_of_ble_eq_true rfl) (Nat.le_of_ble_eq_true rfl) ?_
  refine W.eq (g2 := F0 m 4 ls []) rfl ?_
  obtain ⟨ad0, h00, hj0, w0⟩ := p_start kk q
  rw [w0] at hP hD
  refine lv_aload_n hx hb dX5_init_4 rfl (lv_at hl 0 rfl) ?_
  refine lv_bipush (v := 40) hx hb dX5_init_5 (by decide) ?_
  refine fw_newa (atype := .int) (ty := .int) (cA := kk 0) (t0 := 0) (N' := 40) (a0 := (40, .inl (fun _ => 0))) hx hb (hts (.arrayClass .int) (by decide +kernel)) rfl hK hP hD hS hA rfl (a0_int _) (by decide) (by decide +kernel) (by decide) (Nat.le_of_ble_eq_true rfl) (Nat.le_of_ble_eq_true rfl) dX5_init_7 (fun q1 H hq1 hP hD hS => ?_)
  obtain ⟨ad1, h01, hj1, w1⟩ := p_step (N := 40) (fs := [.int 0, .ref q1, .null, .null, .null, .null, .null, .null, .null, .null, .null, .null, .int 0, .int 0, .int 0]) h00 hj0 hq1 rfl (fun ad' g g' => by have g' : ad' 1 0 = q1 := g'; simp [rfm, g'])
  refine fw_putF (v := .ref q1) (ty := .array .int) (C := RX5) (T := TX5) (N := 15) hx hb hts in5 tyX5 tyX5_ok nmX5 hown hK hP hD hS ((fw_up_ne (fun z => by rw [← z, p_at h00 hj0] at hq1; cases hq1)).trans (p_at h00 hj0)) rfl 1 (by decide) (hts (.fieldLink RX5 7 "WagonSidingsModel" "kind" "[I") (by decide +kernel)) (fun _ h9 => h9) rfl hnm rfl (by decide +kernel) rfl rfl (Nat.le_of_ble_eq_true rfl) dX5_init_9 w1 (fun H locs hP hD hS => ?_)
  refine lv_aload_n hx hb dX5_init_12 rfl (lv_at hl 0 rfl) ?_
  refine lv_bipush (v := 40) hx hb dX5_init_13 (by decide) ?_
  refine fw_newa (atype := .int) (ty := .int) (cA := kk 0) (t0 := 0) (N' := 40) (a0 := (40, .inl (fun _ => 0))) hx hb (hts (.arrayClass .int) (by decide +kernel)) rfl hK hP hD hS hA rfl (a0_int _) (by decide) (by decide +kernel) (by decide) (Nat.le_of_ble_eq_true rfl) (Nat.le_of_ble_eq_true rfl) dX5_init_15 (fun q2 H hq2 hP hD hS => ?_)
  obtain ⟨ad2, h02, hj2, w2⟩ := p_step (N := 40) (fs := [.int 0, .ref (ad1 1 0), .ref q2, .null, .null, .null, .null, .null, .null, .null, .null, .null, .int 0, .int 0, .int 0]) h01 hj1 hq2 rfl (fun ad' g g' => by have g' : ad' 2 0 = q2 := g'; simp [rfm, g', g 1 (by decide)])
  refine fw_putF (v := .ref q2) (ty := .array .int) (C := RX5) (T := TX5) (N := 15) hx hb hts in5 tyX5 tyX5_ok nmX5 hown hK hP hD hS ((fw_up_ne (fun z => by rw [← z, p_at h01 hj1] at hq2; cases hq2)).trans (p_at h01 hj1)) rfl 2 (by decide) (hts (.fieldLink RX5 13 "WagonSidingsModel" "load" "[I") (by decide +kernel)) (fun _ h9 => h9) rfl hnm rfl (by decide +kernel) rfl rfl (Nat.le_of_ble_eq_true rfl) dX5_init_17 w2 (fun H locs hP hD hS => ?_)
  refine lv_aload_n hx hb dX5_init_20 rfl (lv_at hl 0 rfl) ?_
  refine lv_bipush (v := 40) hx hb dX5_init_21 (by decide) ?_
  refine fw_newa (atype := .int) (ty := .int) (cA := kk 0) (t0 := 0) (N' := 40) (a0 := (40, .inl (fun _ => 0))) hx hb (hts (.arrayClass .int) (by decide +kernel)) rfl hK hP hD hS hA rfl (a0_int _) (by decide) (by decide +kernel) (by decide) (Nat.le_of_ble_eq_true rfl) (Nat.le_of_ble_eq_true rfl) dX5_init_23 (fun q3 H hq3 hP hD hS => ?_)
  obtain ⟨ad3, h03, hj3, w3⟩ := p_step (N := 40) (fs := [.int 0, .ref (ad2 1 0), .ref (ad2 2 0), .ref q3, .null, .null, .null, .null, .null, .null, .null, .null, .int 0, .int 0, .int 0]) h02 hj2 hq3 rfl (fun ad' g g' => by have g' : ad' 3 0 = q3 := g'; simp [rfm, g', g 1 (by decide), g 2 (by decide)])
  refine fw_putF (v := .ref q3) (ty := .array .int) (C := RX5) (T := TX5) (N := 15) hx hb hts in5 tyX5 tyX5_ok nmX5 hown hK hP hD hS ((fw_up_ne (fun z => by rw [← z, p_at h02 hj2] at hq3; cases hq3)).trans (p_at h02 hj2)) rfl 3 (by decide) (hts (.fieldLink RX5 16 "WagonSidingsModel" "behind" "[I") (by decide +kernel)) (fun _ h9 => h9) rfl hnm rfl (by decide +kernel) rfl rfl (Nat.le_of_ble_eq_true rfl) dX5_init_25 w3 (fun H locs hP hD hS => ?_)
  refine lv_aload_n hx hb dX5_init_28 rfl (lv_at hl 0 rfl) ?_
  refine lv_bipush (v := 6) hx hb dX5_init_29 (by decide) ?_
  refine fw_newa (atype := .int) (ty := .int) (cA := kk 0) (t0 := 0) (N' := 6) (a0 := (6, .inl (fun _ => 0))) hx hb (hts (.arrayClass .int) (by decide +kernel)) rfl hK hP hD hS hA rfl (a0_int _) (by decide) (by decide +kernel) (by decide) (Nat.le_of_ble_eq_true rfl) (Nat.le_of_ble_eq_true rfl) dX5_init_31 (fun q4 H hq4 hP hD hS => ?_)
  obtain ⟨ad4, h04, hj4, w4⟩ := p_step (N := 6) (fs := [.int 0, .ref (ad3 1 0), .ref (ad3 2 0), .ref (ad3 3 0), .ref q4, .null, .null, .null, .null, .null, .null, .null, .int 0, .int 0, .int 0]) h03 hj3 hq4 rfl (fun ad' g g' => by have g' : ad' 4 0 = q4 := g'; simp [rfm, g', g 1 (by decide), g 2 (by decide), g 3 (by decide)])
  refine fw_putF (v := .ref q4) (ty := .array .int) (C := RX5) (T := TX5) (N := 15) hx hb hts in5 tyX5 tyX5_ok nmX5 hown hK hP hD hS ((fw_up_ne (fun z => by rw [← z, p_at h03 hj3] at hq4; cases hq4)).trans (p_at h03 hj3)) rfl 4 (by decide) (hts (.fieldLink RX5 19 "WagonSidingsModel" "first" "[I") (by decide +kernel)) (fun _ h9 => h9) rfl hnm rfl (by decide +kernel) rfl rfl (Nat.le_of_ble_eq_true rfl) dX5_init_33 w4 (fun H locs hP hD hS => ?_)
  refine lv_aload_n hx hb dX5_init_36 rfl (lv_at hl 0 rfl) ?_
  refine lv_bipush (v := 6) hx hb dX5_init_37 (by decide) ?_
  refine fw_newa (atype := .int) (ty := .int) (cA := kk 0) (t0 := 0) (N' := 6) (a0 := (6, .inl (fun _ => 0))) hx hb (hts (.arrayClass .int) (by decide +kernel)) rfl hK hP hD hS hA rfl (a0_int _) (by decide) (by decide +kernel) (by decide) (Nat.le_of_ble_eq_true rfl) (Nat.le_of_ble_eq_true rfl) dX5_init_39 (fun q5 H hq5 hP hD hS => ?_)
  obtain ⟨ad5, h05, hj5, w5⟩ := p_step (N := 6) (fs := [.int 0, .ref (ad4 1 0), .ref (ad4 2 0), .ref (ad4 3 0), .ref (ad4 4 0), .ref q5, .null, .null, .null, .null, .null, .null, .int 0, .int 0, .int 0]) h04 hj4 hq5 rfl (fun ad' g g' => by have g' : ad' 5 0 = q5 := g'; simp [rfm, g', g 1 (by decide), g 2 (by decide), g 3 (by decide), g 4 (by decide)])
  refine fw_putF (v := .ref q5) (ty := .array .int) (C := RX5) (T := TX5) (N := 15) hx hb hts in5 tyX5 tyX5_ok nmX5 hown hK hP hD hS ((fw_up_ne (fun z => by rw [← z, p_at h04 hj4] at hq5; cases hq5)).trans (p_at h04 hj4)) rfl 5 (by decide) (hts (.fieldLink RX5 22 "WagonSidingsModel" "signal" "[I") (by decide +kernel)) (fun _ h9 => h9) rfl hnm rfl (by decide +kernel) rfl rfl (Nat.le_of_ble_eq_true rfl) dX5_init_41 w5 (fun H locs hP hD hS => ?_)
  refine lv_aload_n hx hb dX5_init_44 rfl (lv_at hl 0 rfl) ?_
  refine lv_iconst (v := 4) hx hb dX5_init_45 (by decide) ?_
  refine fw_newa (atype := .int) (ty := .int) (cA := kk 0) (t0 := 0) (N' := 4) (a0 := (4, .inl (fun _ => 0))) hx hb (hts (.arrayClass .int) (by decide +kernel)) rfl hK hP hD hS hA rfl (a0_int _) (by decide) (by decide +kernel) (by decide) (Nat.le_of_ble_eq_true rfl) (Nat.le_of_ble_eq_true rfl) dX5_init_46 (fun q6 H hq6 hP hD hS => ?_)
  obtain ⟨ad6, h06, hj6, w6⟩ := p_step (N := 4) (fs := [.int 0, .ref (ad5 1 0), .ref (ad5 2 0), .ref (ad5 3 0), .ref (ad5 4 0), .ref (ad5 5 0), .ref q6, .null, .null, .null, .null, .null, .int 0, .int 0, .int 0]) h05 hj5 hq6 rfl (fun ad' g g' => by have g' : ad' 6 0 = q6 := g'; simp [rfm, g', g 1 (by decide), g 2 (by decide), g 3 (by decide), g 4 (by decide), g 5 (by decide)])
  refine fw_putF (v := .ref q6) (ty := .array .int) (C := RX5) (T := TX5) (N := 15) hx hb hts in5 tyX5 tyX5_ok nmX5 hown hK hP hD hS ((fw_up_ne (fun z => by rw [← z, p_at h05 hj5] at hq6; cases hq6)).trans (p_at h05 hj5)) rfl 6 (by decide) (hts (.fieldLink RX5 25 "WagonSidingsModel" "rakeLong" "[I") (by decide +kernel)) (fun _ h9 => h9) rfl hnm rfl (by decide +kernel) rfl rfl (Nat.le_of_ble_eq_true rfl) dX5_init_48 w6 (fun H locs hP hD hS => ?_)
  refine lv_aload_n hx hb dX5_init_51 rfl (lv_at hl 0 rfl) ?_
  refine lv_iconst (v := 4) hx hb dX5_init_52 (by decide) ?_
  refine fw_newa (atype := .int) (ty := .int) (cA := kk 0) (t0 := 0) (N' := 4) (a0 := (4, .inl (fun _ => 0))) hx hb (hts (.arrayClass .int) (by decide +kernel)) rfl hK hP hD hS hA rfl (a0_int _) (by decide) (by decide +kernel) (by decide) (Nat.le_of_ble_eq_true rfl) (Nat.le_of_ble_eq_true rfl) dX5_init_53 (fun q7 H hq7 hP hD hS => ?_)
  obtain ⟨ad7, h07, hj7, w7⟩ := p_step (N := 4) (fs := [.int 0, .ref (ad6 1 0), .ref (ad6 2 0), .ref (ad6 3 0), .ref (ad6 4 0), .ref (ad6 5 0), .ref (ad6 6 0), .ref q7, .null, .null, .null, .null, .int 0, .int 0, .int 0]) h06 hj6 hq7 rfl (fun ad' g g' => by have g' : ad' 7 0 = q7 := g'; simp [rfm, g', g 1 (by decide), g 2 (by decide), g 3 (by decide), g 4 (by decide), g 5 (by decide), g 6 (by decide)])
  refine fw_putF (v := .ref q7) (ty := .array .int) (C := RX5) (T := TX5) (N := 15) hx hb hts in5 tyX5 tyX5_ok nmX5 hown hK hP hD hS ((fw_up_ne (fun z => by rw [← z, p_at h06 hj6] at hq7; cases hq7)).trans (p_at h06 hj6)) rfl 7 (by decide) (hts (.fieldLink RX5 28 "WagonSidingsModel" "rakeKind" "[I") (by decide +kernel)) (fun _ h9 => h9) rfl hnm rfl (by decide +kernel) rfl rfl (Nat.le_of_ble_eq_true rfl) dX5_init_55 w7 (fun H locs hP hD hS => ?_)
  refine lv_aload_n hx hb dX5_init_58 rfl (lv_at hl 0 rfl) ?_
  refine lv_bipush (v := 48) hx hb dX5_init_59 (by decide) ?_
  refine fw_newa (atype := .int) (ty := .int) (cA := kk 0) (t0 := 0) (N' := 48) (a0 := (48, .inl (fun _ => 0))) hx hb (hts (.arrayClass .int) (by decide +kernel)) rfl hK hP hD hS hA rfl (a0_int _) (by decide) (by decide +kernel) (by decide) (Nat.le_of_ble_eq_true rfl) (Nat.le_of_ble_eq_true rfl) dX5_init_61 (fun q8 H hq8 hP hD hS => ?_)
  obtain ⟨ad8, h08, hj8, w8⟩ := p_step (N := 48) (fs := [.int 0, .ref (ad7 1 0), .ref (ad7 2 0), .ref (ad7 3 0), .ref (ad7 4 0), .ref (ad7 5 0), .ref (ad7 6 0), .ref (ad7 7 0), .ref q8, .null, .null, .null, .int 0, .int 0, .int 0]) h07 hj7 hq8 rfl (fun ad' g g' => by have g' : ad' 8 0 = q8 := g'; simp [rfm, g', g 1 (by decide), g 2 (by decide), g 3 (by decide), g 4 (by decide), g 5 (by decide), g 6 (by decide), g 7 (by decide)])
  refine fw_putF (v := .ref q8) (ty := .array .int) (C := RX5) (T := TX5) (N := 15) hx hb hts in5 tyX5 tyX5_ok nmX5 hown hK hP hD hS ((fw_up_ne (fun z => by rw [← z, p_at h07 hj7] at hq8; cases hq8)).trans (p_at h07 hj7)) rfl 8 (by decide) (hts (.fieldLink RX5 31 "WagonSidingsModel" "rake" "[I") (by decide +kernel)) (fun _ h9 => h9) rfl hnm rfl (by decide +kernel) rfl rfl (Nat.le_of_ble_eq_true rfl) dX5_init_63 w8 (fun H locs hP hD hS => ?_)
  refine lv_aload_n hx hb dX5_init_66 rfl (lv_at hl 0 rfl) ?_
  refine lv_iconst (v := 2) hx hb dX5_init_67 (by decide) ?_
  refine fw_newa (atype := .int) (ty := .int) (cA := kk 0) (t0 := 0) (N' := 2) (a0 := (2, .inl (fun _ => 0))) hx hb (hts (.arrayClass .int) (by decide +kernel)) rfl hK hP hD hS hA rfl (a0_int _) (by decide) (by decide +kernel) (by decide) (Nat.le_of_ble_eq_true rfl) (Nat.le_of_ble_eq_true rfl) dX5_init_68 (fun q9 H hq9 hP hD hS => ?_)
  obtain ⟨ad9, h09, hj9, w9⟩ := p_step (N := 2) (fs := [.int 0, .ref (ad8 1 0), .ref (ad8 2 0), .ref (ad8 3 0), .ref (ad8 4 0), .ref (ad8 5 0), .ref (ad8 6 0), .ref (ad8 7 0), .ref (ad8 8 0), .ref q9, .null, .null, .int 0, .int 0, .int 0]) h08 hj8 hq9 rfl (fun ad' g g' => by have g' : ad' 9 0 = q9 := g'; simp [rfm, g', g 1 (by decide), g 2 (by decide), g 3 (by decide), g 4 (by decide), g 5 (by decide), g 6 (by decide), g 7 (by decide), g 8 (by decide)])
  refine fw_putF (v := .ref q9) (ty := .array .int) (C := RX5) (T := TX5) (N := 15) hx hb hts in5 tyX5 tyX5_ok nmX5 hown hK hP hD hS ((fw_up_ne (fun z => by rw [← z, p_at h08 hj8] at hq9; cases hq9)).trans (p_at h08 hj8)) rfl 9 (by decide) (hts (.fieldLink RX5 34 "WagonSidingsModel" "tableLong" "[I") (by decide +kernel)) (fun _ h9 => h9) rfl hnm rfl (by decide +kernel) rfl rfl (Nat.le_of_ble_eq_true rfl) dX5_init_70 w9 (fun H locs hP hD hS => ?_)
  refine lv_aload_n hx hb dX5_init_73 rfl (lv_at hl 0 rfl) ?_
  refine lv_iconst (v := 2) hx hb dX5_init_74 (by decide) ?_
  refine fw_newa (atype := .int) (ty := .int) (cA := kk 0) (t0 := 0) (N' := 2) (a0 := (2, .inl (fun _ => 0))) hx hb (hts (.arrayClass .int) (by decide +kernel)) rfl hK hP hD hS hA rfl (a0_int _) (by decide) (by decide +kernel) (by decide) (Nat.le_of_ble_eq_true rfl) (Nat.le_of_ble_eq_true rfl) dX5_init_75 (fun q10 H hq10 hP hD hS => ?_)
  obtain ⟨ad10, h010, hj10, w10⟩ := p_step (N := 2) (fs := [.int 0, .ref (ad9 1 0), .ref (ad9 2 0), .ref (ad9 3 0), .ref (ad9 4 0), .ref (ad9 5 0), .ref (ad9 6 0), .ref (ad9 7 0), .ref (ad9 8 0), .ref (ad9 9 0), .ref q10, .null, .int 0, .int 0, .int 0]) h09 hj9 hq10 rfl (fun ad' g g' => by have g' : ad' 10 0 = q10 := g'; simp [rfm, g', g 1 (by decide), g 2 (by decide), g 3 (by decide), g 4 (by decide), g 5 (by decide), g 6 (by decide), g 7 (by decide), g 8 (by decide), g 9 (by decide)])
  refine fw_putF (v := .ref q10) (ty := .array .int) (C := RX5) (T := TX5) (N := 15) hx hb hts in5 tyX5 tyX5_ok nmX5 hown hK hP hD hS ((fw_up_ne (fun z => by rw [← z, p_at h09 hj9] at hq10; cases hq10)).trans (p_at h09 hj9)) rfl 10 (by decide) (hts (.fieldLink RX5 37 "WagonSidingsModel" "tableWide" "[I") (by decide +kernel)) (fun _ h9 => h9) rfl hnm rfl (by decide +kernel) rfl rfl (Nat.le_of_ble_eq_true rfl) dX5_init_77 w10 (fun H locs hP hD hS => ?_)
  refine lv_aload_n hx hb dX5_init_80 rfl (lv_at hl 0 rfl) ?_
  refine lv_sipush (v := 144) hx hb dX5_init_81 (by decide) ?_
  refine fw_newa (atype := .int) (ty := .int) (cA := kk 0) (t0 := 0) (N' := 144) (a0 := (144, .inl (fun _ => 0))) hx hb (hts (.arrayClass .int) (by decide +kernel)) rfl hK hP hD hS hA rfl (a0_int _) (by decide) (by decide +kernel) (by decide) (Nat.le_of_ble_eq_true rfl) (Nat.le_of_ble_eq_true rfl) dX5_init_84 (fun q11 H hq11 hP hD hS => ?_)
  obtain ⟨ad11, h011, hj11, w11⟩ := p_step (N := 144) (fs := [.int 0, .ref (ad10 1 0), .ref (ad10 2 0), .ref (ad10 3 0), .ref (ad10 4 0), .ref (ad10 5 0), .ref (ad10 6 0), .ref (ad10 7 0), .ref (ad10 8 0), .ref (ad10 9 0), .ref (ad10 10 0), .ref q11, .int 0, .int 0, .int 0]) h010 hj10 hq11 rfl (fun ad' g g' => by have g' : ad' 11 0 = q11 := g'; simp [rfm, g', g 1 (by decide), g 2 (by decide), g 3 (by decide), g 4 (by decide), g 5 (by decide), g 6 (by decide), g 7 (by decide), g 8 (by decide), g 9 (by decide), g 10 (by decide)])
  refine fw_putF (v := .ref q11) (ty := .array .int) (C := RX5) (T := TX5) (N := 15) hx hb hts in5 tyX5 tyX5_ok nmX5 hown hK hP hD hS ((fw_up_ne (fun z => by rw [← z, p_at h010 hj10] at hq11; cases hq11)).trans (p_at h010 hj10)) rfl 11 (by decide) (hts (.fieldLink RX5 40 "WagonSidingsModel" "table" "[I") (by decide +kernel)) (fun _ h9 => h9) rfl hnm rfl (by decide +kernel) rfl rfl (Nat.le_of_ble_eq_true rfl) dX5_init_86 w11 (fun H locs hP hD hS => ?_)
  obtain ⟨w12, hj⟩ := p_end (kk := kk) hj11
  rw [w12] at hP hD
  refine lv_iconst (v := 0) hx hb dX5_init_89 (by decide) ?_
  refine lv_istore_n (lv' := [(1, .int 0), (0, .ref q)]) hx hb dX5_init_90 rfl hl (by decide) rfl (fun ls hl => ?_)
  refine W.cs (cells' := 11) (slots' := 336) rfl rfl ?_
  exact loop1 6 0 ad11 _ H locs ls rfl h011 hj ⟨rfl, fun p h => absurd h (Nat.not_lt_zero p), fun p h => absurd h (Nat.not_lt_zero p), fun _ => rfl, fun _ => rfl, fun _ => rfl, rfl, rfl, rfl⟩ hP hD hS (by rw [h011]; exact hl)
