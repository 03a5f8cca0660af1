def mclr (J : sI) (r d : Nat) : sI := fun g p => if g = 8 ∧ 12 * r ≤ p ∧ p < 12 * r + d then -1 else J g p
def mclt (J : sI) (t d : Nat) : sI := fun g p => if g = 11 ∧ 72 * t ≤ p ∧ p < 72 * t + d then 0 else J g p
theorem mclr_0 (J : sI) (r : Nat) : mclr J r 0 = J := by
  funext g p
  unfold mclr
  rw [if_neg (by omega)]
theorem mclt_0 (J : sI) (r : Nat) : mclt J r 0 = J := by
  funext g p
  unfold mclt
  rw [if_neg (by omega)]
theorem mclr_s (J : sI) (r d : Nat) : upI (mclr J r d) 8 (12 * r + d) (-1) = mclr J r (d + 1) := by
  funext g p
  by_cases h : g = 8 ∧ p = 12 * r + d
  · rw [h.1, h.2, upI_s, mclr, if_pos (by omega)]
  · rw [upI_n h]
    unfold mclr
    by_cases h2 : g = 8 ∧ 12 * r ≤ p ∧ p < 12 * r + d
    · rw [if_pos h2, if_pos (by omega)]
    · rw [if_neg h2, if_neg (by omega)]
theorem mclt_s (J : sI) (r d : Nat) : upI (mclt J r d) 11 (72 * r + d) 0 = mclt J r (d + 1) := by
  funext g p
  by_cases h : g = 11 ∧ p = 72 * r + d
  · rw [h.1, h.2, upI_s, mclt, if_pos (by omega)]
  · rw [upI_n h]
    unfold mclt
    by_cases h2 : g = 11 ∧ 72 * r ≤ p ∧ p < 72 * r + d
    · rw [if_pos h2, if_pos (by omega)]
    · rw [if_neg h2, if_neg (by omega)]
theorem clrO_ne {O : sO} {f g x : Nat} (h : ¬ g = f) : clrO O f g x = O g x := by
  unfold clrO
  rw [if_neg h]
theorem clrI_ne {I : sI} {f g x : Nat} (h : ¬ g = f) : clrI I f g x = I g x := by
  unfold clrI
  rw [if_neg h]
theorem mR_rake {n : Nat} {I : sI} {O : sO} {J : sI} {r c : Nat} {k : Int32} (h : mR n I O J) (hr0 : r < 4) (hc : c ≤ 12) : mR n (upI (upI (upI I 5 r 1) 6 r k) 7 r (nI c)) (clrO O (2 + r)) (mclr (upI (upI J 6 r (nI c)) 7 r k) r c) := by
  obtain ⟨g0, g1, g2, g3, g4, g5, g6, g7, g8, g9, g10, g11, g12, g13, g14⟩ := h
  have hJ : ∀ a x, ¬ (6 ≤ a ∧ a ≤ 8) → mclr (upI (upI J 6 r (nI c)) 7 r k) r c a x = J a x := fun a x q => by unfold mclr; rw [if_neg (by omega), upI_n (by omega), upI_n (by omega)]
  have hI : ∀ a x, ¬ (5 ≤ a ∧ a ≤ 7) → upI (upI (upI I 5 r 1) 6 r k) 7 r (nI c) a x = I a x := fun a x q => by rw [upI_n (by omega), upI_n (by omega), upI_n (by omega)]
  have hI2 : ∀ a x, ¬ x = r → upI (upI (upI I 5 r 1) 6 r k) 7 r (nI c) a x = I a x := fun a x q => by rw [upI_n (by omega), upI_n (by omega), upI_n (by omega)]
  have e5 : upI (upI (upI I 5 r 1) 6 r k) 7 r (nI c) 5 r = 1 := by rw [upI_n (by omega), upI_n (by omega), upI_s]
  have e6 : upI (upI (upI I 5 r 1) 6 r k) 7 r (nI c) 6 r = k := by rw [upI_n (by omega), upI_s]
  refine ⟨by rw [hJ 0 _ (by omega)]; exact g0, fun i hi => by rw [hJ 1 _ (by omega), hI 0 _ (by omega)]; exact g1 i hi, fun i hi => by rw [hJ 2 _ (by omega), hI 1 _ (by omega)]; exact g2 i hi, fun i hi => by rw [hJ 3 _ (by omega), clrO_ne (by omega)]; exact g3 i hi, fun t ht => by rw [hJ 4 _ (by omega), clrO_ne (by omega)]; exact g4 t ht, fun t ht => by rw [hJ 5 _ (by omega), hI 4 _ (by omega)]; exact g5 t ht, fun s hs => ?_, fun s hs => ?_, fun s i hs hi h5 h7 => ?_, fun t ht => by rw [hJ 9 _ (by omega), hI 8 _ (by omega), hI 9 _ (by omega)]; exact g9 t ht, fun t ht => by rw [hJ 10 _ (by omega), hI 10 _ (by omega)]; exact g10 t ht, fun t c ht hc => by rw [hJ 11 _ (by omega), hI (20 + t) _ (by omega)]; exact g11 t c ht hc, by rw [hJ 12 _ (by omega), hI 11 _ (by omega)]; exact g12, by rw [hJ 13 _ (by omega), hI 11 _ (by omega)]; exact g13, by rw [hJ 14 _ (by omega), hI 11 _ (by omega)]; exact g14⟩
  · unfold mclr
    rw [if_neg (by omega)]
    by_cases z : s = r
    · subst z
      rw [e5, upI_n (by omega), upI_s, upI_s, pif_f (by decide)]
    · rw [hI2 5 _ z, hI2 7 _ z, upI_n (by omega), upI_n (by omega)]; exact g6 s hs
  · unfold mclr
    rw [if_neg (by omega)]
    by_cases z : s = r
    · subst z
      rw [e6, upI_s]
    · rw [hI2 6 _ z, upI_n (by omega), upI_n (by omega)]; exact g7 s hs
  · by_cases z : s = r
    · subst z
      rw [upI_s, nI_ltI (by omega) (by omega)] at h7
      unfold mclr clrO
      rw [if_pos (by omega), if_pos rfl]
      rfl
    · rw [hI2 5 _ z] at h5
      rw [hI2 7 _ z] at h7
      unfold mclr
      rw [if_neg (by omega), upI_n (by omega), upI_n (by omega), clrO_ne (by omega)]
      exact g8 s i hs hi h5 h7
theorem mR_table {n : Nat} {I : sI} {O : sO} {J : sI} {r : Nat} {a b : Int32} (h : mR n I O J) (hr0 : r < 2) : mR n (clrI (upI (upI (upI I 8 r 1) 9 r a) 10 r b) (20 + r)) O (mclt (upI (upI J 9 r a) 10 r b) r 72) := by
  obtain ⟨g0, g1, g2, g3, g4, g5, g6, g7, g8, g9, g10, g11, g12, g13, g14⟩ := h
  have hJ : ∀ a' x, ¬ (9 ≤ a' ∧ a' ≤ 11) → mclt (upI (upI J 9 r a) 10 r b) r 72 a' x = J a' x := fun a' x q => by unfold mclt; rw [if_neg (by omega), upI_n (by omega), upI_n (by omega)]
  have hI : ∀ a' x, ¬ (8 ≤ a' ∧ a' ≤ 10) → ¬ a' = 20 + r → clrI (upI (upI (upI I 8 r 1) 9 r a) 10 r b) (20 + r) a' x = I a' x := fun a' x q q2 => by rw [clrI_ne q2, upI_n (by omega), upI_n (by omega), upI_n (by omega)]
  have hI2 : ∀ a' x, a' < 20 → ¬ x = r → clrI (upI (upI (upI I 8 r 1) 9 r a) 10 r b) (20 + r) a' x = I a' x := fun a' x q0 q => by rw [clrI_ne (by omega), upI_n (by omega), upI_n (by omega), upI_n (by omega)]
  have e8 : clrI (upI (upI (upI I 8 r 1) 9 r a) 10 r b) (20 + r) 8 r = 1 := by rw [clrI_ne (by omega), upI_n (by omega), upI_n (by omega), upI_s]
  have e9 : clrI (upI (upI (upI I 8 r 1) 9 r a) 10 r b) (20 + r) 9 r = a := by rw [clrI_ne (by omega), upI_n (by omega), upI_s]
  have e10 : clrI (upI (upI (upI I 8 r 1) 9 r a) 10 r b) (20 + r) 10 r = b := by rw [clrI_ne (by omega), upI_s]
  refine ⟨by rw [hJ 0 _ (by omega)]; exact g0, fun i hi => by rw [hJ 1 _ (by omega), hI 0 _ (by omega) (by omega)]; exact g1 i hi, fun i hi => by rw [hJ 2 _ (by omega), hI 1 _ (by omega) (by omega)]; exact g2 i hi, fun i hi => by rw [hJ 3 _ (by omega)]; exact g3 i hi, fun t ht => by rw [hJ 4 _ (by omega)]; exact g4 t ht, fun t ht => by rw [hJ 5 _ (by omega), hI 4 _ (by omega) (by omega)]; exact g5 t ht, fun s hs => by rw [hJ 6 _ (by omega), hI 5 _ (by omega) (by omega), hI 7 _ (by omega) (by omega)]; exact g6 s hs, fun s hs => by rw [hJ 7 _ (by omega), hI 6 _ (by omega) (by omega)]; exact g7 s hs, fun s i hs hi h5 h7 => by rw [hI 5 _ (by omega) (by omega)] at h5; rw [hI 7 _ (by omega) (by omega)] at h7; rw [hJ 8 _ (by omega)]; exact g8 s i hs hi h5 h7, fun t ht => ?_, fun t ht => ?_, fun t c ht hc => ?_, by rw [hJ 12 _ (by omega), hI 11 _ (by omega) (by omega)]; exact g12, by rw [hJ 13 _ (by omega), hI 11 _ (by omega) (by omega)]; exact g13, by rw [hJ 14 _ (by omega), hI 11 _ (by omega) (by omega)]; exact g14⟩
  · unfold mclt
    rw [if_neg (by omega)]
    by_cases z : t = r
    · subst z
      rw [e8, e9, upI_n (by omega), upI_s, pif_f (by decide)]
    · rw [hI2 8 _ (by omega) z, hI2 9 _ (by omega) z, upI_n (by omega), upI_n (by omega)]; exact g9 t ht
  · unfold mclt
    rw [if_neg (by omega)]
    by_cases z : t = r
    · subst z
      rw [e10, upI_s]
    · rw [hI2 10 _ (by omega) z, upI_n (by omega), upI_n (by omega)]; exact g10 t ht
  · by_cases z : t = r
    · subst z
      unfold mclt clrI
      rw [if_pos (by omega), if_pos rfl]
    · rw [hI (20 + t) _ (by omega) (by omega)]
      unfold mclt
      rw [if_neg (by omega), upI_n (by omega), upI_n (by omega)]
      exact g11 t c ht hc
theorem nI_12 {c : Int32} (h0 : 0 ≤ c) (h : c ≤ 12) : ∃ k : Nat, k ≤ 12 ∧ c = nI k := by
  obtain ⟨j, hj, rfl⟩ := nI_of (Int32.not_lt.mpr h0)
  rw [show (12 : Int32) = nI 12 from rfl, nI_leI hj (by decide)] at h
  exact ⟨j, h, rfl⟩
theorem f7_no {b : Int32} (h : fnd 7 b = none) : b < 0 ∨ 6 < b := by
  by_cases h1 : b < 0
  · exact Or.inl h1
  · obtain ⟨j, hj, rfl⟩ := nI_of h1
    refine Or.inr ?_
    rw [show (6 : Int32) = nI 6 from rfl, nI_ltI (by decide) hj]
    rcases Nat.lt_or_ge 6 j with z | z
    · exact z
    · rw [fnd_nI (by decide) (by omega)] at h; cases h
theorem f7_yes {y : Nat} (h : y < 7) : ¬ nI y < 0 ∧ ¬ 6 < nI y := by
  refine ⟨nI_pos (by omega), ?_⟩
  rw [show (6 : Int32) = nI 6 from rfl, nI_ltI (by decide) (by omega)]
  omega

set_option maxHeartbeats 4000000 in
set_option maxRecDepth 100000 in
theorem c_X5_rake (l : Launch) (D : va_G) (kk : Nat → ClassId) (ad : Nat → Nat → Nat) (n : Nat) (I : sI) (O : sO) (J : sI) (hj : sj mV ad) (hY : yI n I O) (hR : mR n I O J) (r0 k c0 : Int32) : fw_Mi l yX5_rake wsX5_rake { frames := 2, cells := 0, slots := 0, locals := 44 } 0 0 D vwCl (xT kk) (mw kk ad J) [.ref (ad 0 0), .int r0, .int k, .int c0] (fun r w1 => ∃ I1 O1 J1, sp_rake I O r0 k c0 = (r, I1, O1) ∧ mR n I1 O1 J1 ∧ w1 = mw kk ad J1) := by
  refine fw_ofi (cc := cX5_rake) (maxL := 5) (ret := (some .int)) (by decide) rfl (Nat.le_of_ble_eq_true rfl) ?_
  intro p e s m args below meth c A ls hx hb hml hr hlocks hnm hts hown hK hP hD hA hS hl
  have hown : s.vm.findClass RX5 = some m.cls := hown
  have hl : lv_has ls 5 [(0, .ref (ad 0 0)), (1, .int r0), (2, .int k), (3, .int c0)] := hl
  have in5 : ∀ w ∈ u_ws RX5 TX5 15, w ∈ wsX5_rake := by decide +kernel
  have hn40 := hY.1.1
  have loop : ∀ (rr c1 : Nat), rr < 4 → c1 ≤ 12 → sp_rake I O (nI rr) k (nI c1) = (1, tl (upI (upI (upI I 5 rr 1) 6 rr k) 7 rr (nI c1)) 0 0, clrO O (2 + rr)) → ∀ (f d : Nat) (H : Heap) (locs : List Loc) (ls : Array Slot), d + f = c1 → fw_P D vwCl (mw kk ad (mclr (upI (upI J 6 rr (nI c1)) 7 rr k) rr d)) H → fw_D A (mw kk ad (mclr (upI (upI J 6 rr (nI c1)) 7 rr k) rr d)) → va_S A s.heap H locs → lv_has ls 5 [(4, .int (nI d)), (0, .ref (ad 0 0)), (1, .int (nI rr)), (2, .int k), (3, .int (nI c1))] → W p l e { frames := 2, cells := 0, slots := 0, locals := 44 } s m args below meth c H locs 0 0 (MQ below (va_Qi (fun r w1 => ∃ I1 O1 J1, sp_rake I O (nI rr) k (nI c1) = (r, I1, O1) ∧ mR n I1 O1 J1 ∧ w1 = mw kk ad J1) (fw_B D vwCl (xT kk) A) A) args s 0 0 A) (F0 m 54 ls []) := by
    intro rr c1 hr4 hc12 hsp f
    induction f with
    | zero =>
      intro d H locs ls hdf hP hD hS hl
      obtain rfl : c1 = d := by omega
      refine lv_iload hx hb dX5_rake_54 (lv_at hl 0 rfl) ?_
      refine lv_iload_n hx hb dX5_rake_56 rfl (lv_at hl 4 rfl) ?_
      refine lv_icmp_ge (tgt := 79) hx hb dX5_rake_57 (by decide) (fun _ => ?_) (fun c9 => absurd (nI_le (Nat.le_refl _) (by omega)) c9)
      refine lv_aload_n hx hb dX5_rake_79 rfl (lv_at hl 1 rfl) ?_
      refine lv_iconst (v := 1) hx hb dX5_rake_80 (by decide) ?_
      refine lv_iconst (v := 0) hx hb dX5_rake_81 (by decide) ?_
      refine fw_calli (va_runV (As := [.int 1, .int 0]) (rest := []) ⟨hx, hb, hml, hown, hts⟩ (c_X5_well l D kk ad (mclr (upI (upI J 6 rr (nI c1)) 7 rr k) rr c1) hj 1 0 _) (cwV 2 hts gX5_rake_X5_well rfl rfl rfl (by decide +kernel) ⟨Nat.le_of_ble_eq_true rfl, Nat.le_of_ble_eq_true rfl⟩) (fw_preV hK hP (ci := 5) rfl (m_at0 hj)) rfl rfl hl.1 rfl (lv_room (Nat.le_of_ble_eq_true rfl)) dX5_rake_82 ⟨Nat.le_of_ble_eq_true rfl, Nat.le_of_ble_eq_true rfl⟩) hD hS hA (fun r w1 H locs hq hP hD hS => ?_)
      obtain ⟨rfl, rfl⟩ := hq
      exact fw_iret hx hb hr hlocks hK hP hD hS dX5_rake_85 ⟨_, _, _, hsp, mR_tell (mR_rake hR hr4 hc12), rfl⟩
    | succ f ih =>
      intro d H locs ls hdf hP hD hS hl
      refine lv_iload hx hb dX5_rake_54 (lv_at hl 0 rfl) ?_
      refine lv_iload_n hx hb dX5_rake_56 rfl (lv_at hl 4 rfl) ?_
      refine lv_icmp_ge (tgt := 79) hx hb dX5_rake_57 (by decide) (fun c9 => absurd c9 (nI_ge (by omega) (by omega))) (fun _ => ?_)
      refine lv_aload_n hx hb dX5_rake_60 rfl (lv_at hl 1 rfl) ?_
      refine fw_get (v := .ref (ad 8 0)) (C := RX5) (T := TX5) (N := 15) hx hb hts in5 hown hK hP (m_at0 hj) rfl 8 (by decide) (hts (.fieldLink RX5 31 "WagonSidingsModel" "rake" "[I") (by decide +kernel)) (fun _ h9 => h9) rfl dX5_rake_61 ?_
      refine lv_bipush (v := 12) hx hb dX5_rake_64 (by decide) ?_
      refine lv_iload_n hx hb dX5_rake_66 rfl (lv_at hl 2 rfl) ?_
      refine lv_imul hx hb dX5_rake_67 ?_
      refine W.eq (g2 := F0 m 68 ls [.int (nI (12 * rr)), .ref (ad 8 0)]) (by rw [show (12 : Int32) = nI 12 from rfl, pk_mul]) ?_
      refine lv_iload hx hb dX5_rake_68 (lv_at hl 0 rfl) ?_
      refine lv_iadd hx hb dX5_rake_70 ?_
      refine W.eq (g2 := F0 m 71 ls [.int (nI (12 * rr + d)), .ref (ad 8 0)]) (by rw [nI_add]) ?_
      refine lv_iconst (v := (-1)) hx hb dX5_rake_71 (by decide) ?_
      refine fw_iast (w1 := mw kk ad (mclr (upI (upI J 6 rr (nI c1)) 7 rr k) rr (d + 1))) hx hb hK hP hD hS 0 (m_at8 hj) rfl (vp_in_nI (by omega) (by decide)) dX5_rake_72 (by rw [nI_clamp (by omega), ← mclr_s]; exact m_st (k := 8) (by omega) hj) (fun H locs hP hD hS => ?_)
      refine lv_iinc (v := nI (d + 1)) (lv' := [(4, .int (nI (d + 1))), (0, .ref (ad 0 0)), (1, .int (nI rr)), (2, .int k), (3, .int (nI c1))]) hx hb dX5_rake_73 hl (k := 0) rfl (nI_1 d) (by decide) rfl (fun ls hl => ?_)
      refine lv_goto (tgt := 54) hx hb dX5_rake_76 (by decide) ?_
      exact ih (d + 1) H locs ls (by omega) hP hD hS (lv_sub hl [0, 1, 2, 3, 4] rfl)
  refine lv_iload_n hx hb dX5_rake_0 rfl (lv_at hl 1 rfl) ?_
  refine fw_calli (va_runS (As := [.int r0]) (rest := []) ⟨hx, hb, hml, hown, hts⟩ (c_X5_isRake l D kk _ r0 _) (va_cwS 1 hts gX5_rake_X5_isRake rfl rfl rfl (by decide +kernel) ⟨Nat.le_of_ble_eq_true rfl, Nat.le_of_ble_eq_true rfl⟩) (fw_preS hK hP) rfl rfl hl.1 rfl (lv_room (Nat.le_of_ble_eq_true rfl)) dX5_rake_1 ⟨Nat.le_of_ble_eq_true rfl, Nat.le_of_ble_eq_true rfl⟩) hD hS hA (fun r w1 H locs hq hP hD hS => ?_)
  obtain ⟨rfl, rfl⟩ := hq
  rcases oc (fnd 4 r0) with hf1 | ⟨i2, hf1⟩
  · refine W.eq (g2 := F0 m 4 ls [.int 0]) (by rw [hf1]; rfl) ?_
    refine lv_if_ne (tgt := 10) hx hb dX5_rake_4 (by decide) (fun c9 => absurd c9 (by decide)) (fun _ => ?_)
    refine lv_bipush (v := (-101)) hx hb dX5_rake_7 (by decide) ?_
    exact fw_iret hx hb hr hlocks hK hP hD hS dX5_rake_9 ⟨_, _, _, by simp [sp_rake, pif_True, pif_False, hf1], hR, rfl⟩
  · refine W.eq (g2 := F0 m 4 ls [.int 1]) (by rw [hf1]; rfl) ?_
    obtain ⟨hi2, rfl⟩ := fnd_lt hf1
    refine lv_if_ne (tgt := 10) hx hb dX5_rake_4 (by decide) (fun _ => ?_) (fun c9 => absurd c9 (by decide))
    refine lv_iload_n hx hb dX5_rake_10 rfl (lv_at hl 2 rfl) ?_
    refine fw_calli (va_runS (As := [.int k]) (rest := []) ⟨hx, hb, hml, hown, hts⟩ (c_X5_isKind l D kk _ k _) (va_cwS 1 hts gX5_rake_X5_isKind rfl rfl rfl (by decide +kernel) ⟨Nat.le_of_ble_eq_true rfl, Nat.le_of_ble_eq_true rfl⟩) (fw_preS hK hP) rfl rfl hl.1 rfl (lv_room (Nat.le_of_ble_eq_true rfl)) dX5_rake_11 ⟨Nat.le_of_ble_eq_true rfl, Nat.le_of_ble_eq_true rfl⟩) hD hS hA (fun r w1 H locs hq hP hD hS => ?_)
    obtain ⟨rfl, rfl⟩ := hq
    by_cases hb3 : isKd k
    · rw [pif_t hb3]
      refine lv_if_eq (tgt := 23) hx hb dX5_rake_14 (by decide) (fun c9 => absurd c9 (by decide)) (fun _ => ?_)
      refine lv_iload_n hx hb dX5_rake_17 rfl (lv_at hl 3 rfl) ?_
      refine lv_bipush (v := 12) hx hb dX5_rake_18 (by decide) ?_
      refine lv_icmp_le (tgt := 26) hx hb dX5_rake_20 (by decide) (fun c_20 => ?_) (fun c_20 => ?_)
      · refine lv_iload_n hx hb dX5_rake_26 rfl (lv_at hl 3 rfl) ?_
        refine lv_if_ge (tgt := 37) hx hb dX5_rake_27 (by decide) (fun c_27 => ?_) (fun c_27 => ?_)
        · obtain ⟨c1, hc1, rfl⟩ := nI_12 c_27 c_20
          refine lv_aload_n hx hb dX5_rake_37 rfl (lv_at hl 0 rfl) ?_
          refine fw_get (v := .ref (ad 6 0)) (C := RX5) (T := TX5) (N := 15) hx hb hts in5 hown hK hP (m_at0 hj) rfl 6 (by decide) (hts (.fieldLink RX5 25 "WagonSidingsModel" "rakeLong" "[I") (by decide +kernel)) (fun _ h9 => h9) rfl dX5_rake_38 ?_
          refine lv_iload_n hx hb dX5_rake_41 rfl (lv_at hl 1 rfl) ?_
          refine lv_iload_n hx hb dX5_rake_42 rfl (lv_at hl 3 rfl) ?_
          refine fw_iast (w1 := mw kk ad (upI J 6 i2 (nI c1))) hx hb hK hP hD hS 0 (m_at6 hj) rfl (vp_in_nI (by omega) (by decide)) dX5_rake_43 (by rw [nI_clamp (by omega)]; exact m_st (by omega) hj) (fun H locs hP hD hS => ?_)
          refine lv_aload_n hx hb dX5_rake_44 rfl (lv_at hl 0 rfl) ?_
          refine fw_get (v := .ref (ad 7 0)) (C := RX5) (T := TX5) (N := 15) hx hb hts in5 hown hK hP (m_at0 hj) rfl 7 (by decide) (hts (.fieldLink RX5 28 "WagonSidingsModel" "rakeKind" "[I") (by decide +kernel)) (fun _ h9 => h9) rfl dX5_rake_45 ?_
          refine lv_iload_n hx hb dX5_rake_48 rfl (lv_at hl 1 rfl) ?_
          refine lv_iload_n hx hb dX5_rake_49 rfl (lv_at hl 2 rfl) ?_
          refine fw_iast (w1 := mw kk ad (upI (upI J 6 i2 (nI c1)) 7 i2 k)) hx hb hK hP hD hS 0 (m_at7 hj) rfl (vp_in_nI (by omega) (by decide)) dX5_rake_50 (by rw [nI_clamp (by omega)]; exact m_st (by omega) hj) (fun H locs hP hD hS => ?_)
          refine lv_iconst (v := 0) hx hb dX5_rake_51 (by decide) ?_
          refine lv_istore (lv' := [(4, .int 0), (0, .ref (ad 0 0)), (1, .int (nI i2)), (2, .int k), (3, .int (nI c1))]) hx hb dX5_rake_52 hl (by decide) rfl (fun ls hl => ?_)
          exact loop i2 c1 hi2 hc1 (by simp only [sp_rake, hf1]; rw [pif_f (fun z => z.elim (fun y => y hb3) (Int32.not_lt.mpr c_20)), pif_f (Int32.not_lt.mpr c_27)]) c1 0 H locs ls (Nat.zero_add c1) (by rw [mclr_0]; exact hP) (by rw [mclr_0]; exact hD) hS (lv_sub hl [0, 1, 2, 3, 4] rfl)
        · refine lv_aload_n hx hb dX5_rake_30 rfl (lv_at hl 0 rfl) ?_
          refine lv_iconst (v := 2) hx hb dX5_rake_31 (by decide) ?_
          refine lv_iconst (v := 0) hx hb dX5_rake_32 (by decide) ?_
          refine fw_calli (va_runV (As := [.int 2, .int 0]) (rest := []) ⟨hx, hb, hml, hown, hts⟩ (c_X5_ends l D kk ad J hj 2 0 _) (cwV 2 hts gX5_rake_X5_ends rfl rfl rfl (by decide +kernel) ⟨Nat.le_of_ble_eq_true rfl, Nat.le_of_ble_eq_true rfl⟩) (fw_preV hK hP (ci := 5) rfl (m_at0 hj)) rfl rfl hl.1 rfl (lv_room (Nat.le_of_ble_eq_true rfl)) dX5_rake_33 ⟨Nat.le_of_ble_eq_true rfl, Nat.le_of_ble_eq_true rfl⟩) hD hS hA (fun r w1 H locs hq hP hD hS => ?_)
          obtain ⟨rfl, rfl⟩ := hq
          exact fw_iret hx hb hr hlocks hK hP hD hS dX5_rake_36 ⟨_, _, _, by simp [sp_rake, pif_True, pif_False, hf1, hb3, c_20, Int32.not_lt.mpr c_20, c_27, Int32.not_le.mp c_27], mR_tell hR, rfl⟩
      · refine lv_bipush (v := (-102)) hx hb dX5_rake_23 (by decide) ?_
        exact fw_iret hx hb hr hlocks hK hP hD hS dX5_rake_25 ⟨_, _, _, by simp [sp_rake, pif_True, pif_False, hf1, hb3, c_20, Int32.not_le.mp c_20], hR, rfl⟩
    · rw [pif_f hb3]
      refine lv_if_eq (tgt := 23) hx hb dX5_rake_14 (by decide) (fun _ => ?_) (fun c9 => absurd c9 (by decide))
      refine lv_bipush (v := (-102)) hx hb dX5_rake_23 (by decide) ?_
      exact fw_iret hx hb hr hlocks hK hP hD hS dX5_rake_25 ⟨_, _, _, by simp [sp_rake, pif_True, pif_False, hf1, hb3], hR, rfl⟩

set_option maxHeartbeats 4000000 in
set_option maxRecDepth 100000 in
theorem c_X5_table (l : Launch) (D : va_G) (kk : Nat → ClassId) (ad : Nat → Nat → Nat) (n : Nat) (I : sI) (O : sO) (J : sI) (hj : sj mV ad) (hY : yI n I O) (hR : mR n I O J) (t a b : Int32) : fw_Mi l yX5_table wsX5_table { frames := 2, cells := 0, slots := 0, locals := 44 } 0 0 D vwCl (xT kk) (mw kk ad J) [.ref (ad 0 0), .int t, .int a, .int b] (fun r w1 => ∃ I1 O1 J1, sp_table I O t a b = (r, I1, O1) ∧ mR n I1 O1 J1 ∧ w1 = mw kk ad J1) := by
  refine fw_ofi (cc := cX5_table) (maxL := 5) (ret := (some .int)) (by decide) rfl (Nat.le_of_ble_eq_true rfl) ?_
  intro p e s m args below meth c A ls hx hb hml hr hlocks hnm hts hown hK hP hD hA hS hl
  have hown : s.vm.findClass RX5 = some m.cls := hown
  have hl : lv_has ls 5 [(0, .ref (ad 0 0)), (1, .int t), (2, .int a), (3, .int b)] := hl
  have in5 : ∀ w ∈ u_ws RX5 TX5 15, w ∈ wsX5_table := by decide +kernel
  have hn40 := hY.1.1
  have loop : ∀ (rr y : Nat), rr < 2 → sp_table I O (nI rr) a (nI y) = (1, tl (clrI (upI (upI (upI I 8 rr 1) 9 rr a) 10 rr (nI y)) (20 + rr)) 0 0, O) → ∀ (f d : Nat) (H : Heap) (locs : List Loc) (ls : Array Slot), d + f = 72 → fw_P D vwCl (mw kk ad (mclt (upI (upI J 9 rr a) 10 rr (nI y)) rr d)) H → fw_D A (mw kk ad (mclt (upI (upI J 9 rr a) 10 rr (nI y)) rr d)) → va_S A s.heap H locs → lv_has ls 5 [(4, .int (nI d)), (0, .ref (ad 0 0)), (1, .int (nI rr)), (2, .int a), (3, .int (nI y))] → W p l e { frames := 2, cells := 0, slots := 0, locals := 44 } s m args below meth c H locs 0 0 (MQ below (va_Qi (fun r w1 => ∃ I1 O1 J1, sp_table I O (nI rr) a (nI y) = (r, I1, O1) ∧ mR n I1 O1 J1 ∧ w1 = mw kk ad J1) (fw_B D vwCl (xT kk) A) A) args s 0 0 A) (F0 m 59 ls []) := by
    intro rr y hr4 hsp f
    induction f with
    | zero =>
      intro d H locs ls hdf hP hD hS hl
      obtain rfl : d = 72 := by omega
      refine lv_iload hx hb dX5_table_59 (lv_at hl 0 rfl) ?_
      refine lv_bipush (v := 72) hx hb dX5_table_61 (by decide) ?_
      refine lv_icmp_ge (tgt := 85) hx hb dX5_table_63 (by decide) (fun _ => ?_) (fun c9 => absurd (nI_le (Nat.le_refl _) (by decide)) c9)
      refine lv_aload_n hx hb dX5_table_85 rfl (lv_at hl 1 rfl) ?_
      refine lv_iconst (v := 1) hx hb dX5_table_86 (by decide) ?_
      refine lv_iconst (v := 0) hx hb dX5_table_87 (by decide) ?_
      refine fw_calli (va_runV (As := [.int 1, .int 0]) (rest := []) ⟨hx, hb, hml, hown, hts⟩ (c_X5_well l D kk ad (mclt (upI (upI J 9 rr a) 10 rr (nI y)) rr 72) hj 1 0 _) (cwV 2 hts gX5_table_X5_well rfl rfl rfl (by decide +kernel) ⟨Nat.le_of_ble_eq_true rfl, Nat.le_of_ble_eq_true rfl⟩) (fw_preV hK hP (ci := 5) rfl (m_at0 hj)) rfl rfl hl.1 rfl (lv_room (Nat.le_of_ble_eq_true rfl)) dX5_table_88 ⟨Nat.le_of_ble_eq_true rfl, Nat.le_of_ble_eq_true rfl⟩) hD hS hA (fun r w1 H locs hq hP hD hS => ?_)
      obtain ⟨rfl, rfl⟩ := hq
      exact fw_iret hx hb hr hlocks hK hP hD hS dX5_table_91 ⟨_, _, _, hsp, mR_tell (mR_table hR hr4), rfl⟩
    | succ f ih =>
      intro d H locs ls hdf hP hD hS hl
      refine lv_iload hx hb dX5_table_59 (lv_at hl 0 rfl) ?_
      refine lv_bipush (v := 72) hx hb dX5_table_61 (by decide) ?_
      refine lv_icmp_ge (tgt := 85) hx hb dX5_table_63 (by decide) (fun c9 => absurd c9 (nI_ge (b := 72) (by omega) (by omega))) (fun _ => ?_)
      refine lv_aload_n hx hb dX5_table_66 rfl (lv_at hl 1 rfl) ?_
      refine fw_get (v := .ref (ad 11 0)) (C := RX5) (T := TX5) (N := 15) hx hb hts in5 hown hK hP (m_at0 hj) rfl 11 (by decide) (hts (.fieldLink RX5 40 "WagonSidingsModel" "table" "[I") (by decide +kernel)) (fun _ h9 => h9) rfl dX5_table_67 ?_
      refine lv_bipush (v := 72) hx hb dX5_table_70 (by decide) ?_
      refine lv_iload_n hx hb dX5_table_72 rfl (lv_at hl 2 rfl) ?_
      refine lv_imul hx hb dX5_table_73 ?_
      refine W.eq (g2 := F0 m 74 ls [.int (nI (72 * rr)), .ref (ad 11 0)]) (by rw [show (72 : Int32) = nI 72 from rfl, pk_mul]) ?_
      refine lv_iload hx hb dX5_table_74 (lv_at hl 0 rfl) ?_
      refine lv_iadd hx hb dX5_table_76 ?_
      refine W.eq (g2 := F0 m 77 ls [.int (nI (72 * rr + d)), .ref (ad 11 0)]) (by rw [nI_add]) ?_
      refine lv_iconst (v := 0) hx hb dX5_table_77 (by decide) ?_
      refine fw_iast (w1 := mw kk ad (mclt (upI (upI J 9 rr a) 10 rr (nI y)) rr (d + 1))) hx hb hK hP hD hS 0 (m_at11 hj) rfl (vp_in_nI (by omega) (by decide)) dX5_table_78 (by rw [nI_clamp (by omega), ← mclt_s]; exact m_st (k := 11) (by omega) hj) (fun H locs hP hD hS => ?_)
      refine lv_iinc (v := nI (d + 1)) (lv' := [(4, .int (nI (d + 1))), (0, .ref (ad 0 0)), (1, .int (nI rr)), (2, .int a), (3, .int (nI y))]) hx hb dX5_table_79 hl (k := 0) rfl (nI_1 d) (by decide) rfl (fun ls hl => ?_)
      refine lv_goto (tgt := 59) hx hb dX5_table_82 (by decide) ?_
      exact ih (d + 1) H locs ls (by omega) hP hD hS (lv_sub hl [0, 1, 2, 3, 4] rfl)
  refine lv_iload_n hx hb dX5_table_0 rfl (lv_at hl 1 rfl) ?_
  refine lv_iconst (v := 0) hx hb dX5_table_1 (by decide) ?_
  refine lv_iconst (v := 1) hx hb dX5_table_2 (by decide) ?_
  refine fw_calli (va_runS (As := [.int t, .int 0, .int 1]) (rest := []) ⟨hx, hb, hml, hown, hts⟩ (c_X5_in l D kk _ t 0 1 _) (va_cwS 3 hts gX5_table_X5_in rfl rfl rfl (by decide +kernel) ⟨Nat.le_of_ble_eq_true rfl, Nat.le_of_ble_eq_true rfl⟩) (fw_preS hK hP) rfl rfl hl.1 rfl (lv_room (Nat.le_of_ble_eq_true rfl)) dX5_table_3 ⟨Nat.le_of_ble_eq_true rfl, Nat.le_of_ble_eq_true rfl⟩) hD hS hA (fun r w1 H locs hq hP hD hS => ?_)
  obtain ⟨rfl, rfl⟩ := hq
  refine W.eq (g2 := F0 m 6 ls [.int (b1 (fnd 2 t))]) (by rw [← b1_in (n := 2) (by omega)] <;> rfl) ?_
  rcases oc (fnd 2 t) with hf1 | ⟨i2, hf1⟩
  · refine W.eq (g2 := F0 m 6 ls [.int 0]) (by rw [hf1]; rfl) ?_
    refine lv_if_ne (tgt := 12) hx hb dX5_table_6 (by decide) (fun c9 => absurd c9 (by decide)) (fun _ => ?_)
    refine lv_bipush (v := (-101)) hx hb dX5_table_9 (by decide) ?_
    exact fw_iret hx hb hr hlocks hK hP hD hS dX5_table_11 ⟨_, _, _, by simp [sp_table, pif_True, pif_False, hf1], hR, rfl⟩
  · refine W.eq (g2 := F0 m 6 ls [.int 1]) (by rw [hf1]; rfl) ?_
    obtain ⟨hi2, rfl⟩ := fnd_lt hf1
    refine lv_if_ne (tgt := 12) hx hb dX5_table_6 (by decide) (fun _ => ?_) (fun c9 => absurd c9 (by decide))
    refine lv_iload_n hx hb dX5_table_12 rfl (lv_at hl 2 rfl) ?_
    refine lv_bipush (v := 12) hx hb dX5_table_13 (by decide) ?_
    refine lv_icmp_gt (tgt := 28) hx hb dX5_table_15 (by decide) (fun c_15 => ?_) (fun c_15 => ?_)
    · refine lv_bipush (v := (-102)) hx hb dX5_table_28 (by decide) ?_
      exact fw_iret hx hb hr hlocks hK hP hD hS dX5_table_30 ⟨_, _, _, by simp [sp_table, pif_True, pif_False, hf1, c_15, Int32.not_le.mpr c_15], hR, rfl⟩
    · refine lv_iload_n hx hb dX5_table_18 rfl (lv_at hl 3 rfl) ?_
      refine lv_iconst (v := 0) hx hb dX5_table_19 (by decide) ?_
      refine lv_bipush (v := 6) hx hb dX5_table_20 (by decide) ?_
      refine fw_calli (va_runS (As := [.int b, .int 0, .int 6]) (rest := []) ⟨hx, hb, hml, hown, hts⟩ (c_X5_in l D kk _ b 0 6 _) (va_cwS 3 hts gX5_table_X5_in rfl rfl rfl (by decide +kernel) ⟨Nat.le_of_ble_eq_true rfl, Nat.le_of_ble_eq_true rfl⟩) (fw_preS hK hP) rfl rfl hl.1 rfl (lv_room (Nat.le_of_ble_eq_true rfl)) dX5_table_22 ⟨Nat.le_of_ble_eq_true rfl, Nat.le_of_ble_eq_true rfl⟩) hD hS hA (fun r w1 H locs hq hP hD hS => ?_)
      obtain ⟨rfl, rfl⟩ := hq
      refine W.eq (g2 := F0 m 25 ls [.int (b1 (fnd 7 b))]) (by rw [← b1_in (n := 7) (by omega)] <;> rfl) ?_
      rcases oc (fnd 7 b) with hf3 | ⟨i4, hf3⟩
      · refine W.eq (g2 := F0 m 25 ls [.int 0]) (by rw [hf3]; rfl) ?_
        refine lv_if_ne (tgt := 31) hx hb dX5_table_25 (by decide) (fun c9 => absurd c9 (by decide)) (fun _ => ?_)
        refine lv_bipush (v := (-102)) hx hb dX5_table_28 (by decide) ?_
        exact fw_iret hx hb hr hlocks hK hP hD hS dX5_table_30 ⟨_, _, _, by simp only [sp_table, hf1]; exact pif_t (Or.inr (f7_no hf3)), hR, rfl⟩
      · refine W.eq (g2 := F0 m 25 ls [.int 1]) (by rw [hf3]; rfl) ?_
        obtain ⟨hi4, rfl⟩ := fnd_lt hf3
        refine lv_if_ne (tgt := 31) hx hb dX5_table_25 (by decide) (fun _ => ?_) (fun c9 => absurd c9 (by decide))
        refine lv_iload_n hx hb dX5_table_31 rfl (lv_at hl 2 rfl) ?_
        refine lv_if_ge (tgt := 42) hx hb dX5_table_32 (by decide) (fun c_32 => ?_) (fun c_32 => ?_)
        · refine lv_aload_n hx hb dX5_table_42 rfl (lv_at hl 0 rfl) ?_
          refine fw_get (v := .ref (ad 9 0)) (C := RX5) (T := TX5) (N := 15) hx hb hts in5 hown hK hP (m_at0 hj) rfl 9 (by decide) (hts (.fieldLink RX5 34 "WagonSidingsModel" "tableLong" "[I") (by decide +kernel)) (fun _ h9 => h9) rfl dX5_table_43 ?_
          refine lv_iload_n hx hb dX5_table_46 rfl (lv_at hl 1 rfl) ?_
          refine lv_iload_n hx hb dX5_table_47 rfl (lv_at hl 2 rfl) ?_
          refine fw_iast (w1 := mw kk ad (upI J 9 i2 a)) hx hb hK hP hD hS 0 (m_at9 hj) rfl (vp_in_nI (by omega) (by decide)) dX5_table_48 (by rw [nI_clamp (by omega)]; exact m_st (by omega) hj) (fun H locs hP hD hS => ?_)
          refine lv_aload_n hx hb dX5_table_49 rfl (lv_at hl 0 rfl) ?_
          refine fw_get (v := .ref (ad 10 0)) (C := RX5) (T := TX5) (N := 15) hx hb hts in5 hown hK hP (m_at0 hj) rfl 10 (by decide) (hts (.fieldLink RX5 37 "WagonSidingsModel" "tableWide" "[I") (by decide +kernel)) (fun _ h9 => h9) rfl dX5_table_50 ?_
          refine lv_iload_n hx hb dX5_table_53 rfl (lv_at hl 1 rfl) ?_
          refine lv_iload_n hx hb dX5_table_54 rfl (lv_at hl 3 rfl) ?_
          refine fw_iast (w1 := mw kk ad (upI (upI J 9 i2 a) 10 i2 (nI i4))) hx hb hK hP hD hS 0 (m_at10 hj) rfl (vp_in_nI (by omega) (by decide)) dX5_table_55 (by rw [nI_clamp (by omega)]; exact m_st (by omega) hj) (fun H locs hP hD hS => ?_)
          refine lv_iconst (v := 0) hx hb dX5_table_56 (by decide) ?_
          refine lv_istore (lv' := [(4, .int 0), (0, .ref (ad 0 0)), (1, .int (nI i2)), (2, .int a), (3, .int (nI i4))]) hx hb dX5_table_57 hl (by decide) rfl (fun ls hl => ?_)
          exact loop i2 i4 hi2 (by simp only [sp_table, hf1]; rw [pif_f (fun z => z.elim c_15 (fun z => z.elim (f7_yes hi4).1 (f7_yes hi4).2)), pif_f (Int32.not_lt.mpr c_32)]) 72 0 H locs ls rfl (by rw [mclt_0]; exact hP) (by rw [mclt_0]; exact hD) hS (lv_sub hl [0, 1, 2, 3, 4] rfl)
        · refine lv_aload_n hx hb dX5_table_35 rfl (lv_at hl 0 rfl) ?_
          refine lv_iconst (v := 2) hx hb dX5_table_36 (by decide) ?_
          refine lv_iconst (v := 0) hx hb dX5_table_37 (by decide) ?_
          refine fw_calli (va_runV (As := [.int 2, .int 0]) (rest := []) ⟨hx, hb, hml, hown, hts⟩ (c_X5_ends l D kk ad J hj 2 0 _) (cwV 2 hts gX5_table_X5_ends rfl rfl rfl (by decide +kernel) ⟨Nat.le_of_ble_eq_true rfl, Nat.le_of_ble_eq_true rfl⟩) (fw_preV hK hP (ci := 5) rfl (m_at0 hj)) rfl rfl hl.1 rfl (lv_room (Nat.le_of_ble_eq_true rfl)) dX5_table_38 ⟨Nat.le_of_ble_eq_true rfl, Nat.le_of_ble_eq_true rfl⟩) hD hS hA (fun r w1 H locs hq hP hD hS => ?_)
          obtain ⟨rfl, rfl⟩ := hq
          exact fw_iret hx hb hr hlocks hK hP hD hS dX5_table_41 ⟨_, _, _, by simp only [sp_table, hf1]; rw [pif_f (fun z => z.elim c_15 (fun z => z.elim (f7_yes hi4).1 (f7_yes hi4).2)), pif_t (Int32.not_le.mp c_32)] <;> rfl, mR_tell hR, rfl⟩

set_option maxHeartbeats 4000000 in
set_option maxRecDepth 100000 in
theorem c_X5_add (l : Launch) (D : va_G) (kk : Nat → ClassId) (ad : Nat → Nat → Nat) (n : Nat) (I : sI) (O : sO) (J : sI) (hj : sj mV ad) (hY : yI n I O) (hR : mR n I O J) (t a b v : Int32) : fw_Mi l yX5_add wsX5_add { frames := 2, cells := 0, slots := 0, locals := 44 } 0 0 D vwCl (xT kk) (mw kk ad J) [.ref (ad 0 0), .int t, .int a, .int b, .int v] (fun r w1 => ∃ I1 O1 J1, sp_add I O t a b v = (r, I1, O1) ∧ mR n I1 O1 J1 ∧ w1 = mw kk ad J1) := by
  refine fw_ofi (cc := cX5_add) (maxL := 6) (ret := (some .int)) (by decide) rfl (Nat.le_of_ble_eq_true rfl) ?_
  intro p e s m args below meth c A ls hx hb hml hr hlocks hnm hts hown hK hP hD hA hS hl
  have hown : s.vm.findClass RX5 = some m.cls := hown
  have hl : lv_has ls 6 [(0, .ref (ad 0 0)), (1, .int t), (2, .int a), (3, .int b), (4, .int v)] := hl
  have in5 : ∀ w ∈ u_ws RX5 TX5 15, w ∈ wsX5_add := by decide +kernel
  have hn40 := hY.1.1
  refine lv_iload_n hx hb dX5_add_0 rfl (lv_at hl 1 rfl) ?_
  refine lv_iconst (v := 0) hx hb dX5_add_1 (by decide) ?_
  refine lv_iconst (v := 1) hx hb dX5_add_2 (by decide) ?_
  refine fw_calli (va_runS (As := [.int t, .int 0, .int 1]) (rest := []) ⟨hx, hb, hml, hown, hts⟩ (c_X5_in l D kk _ t 0 1 _) (va_cwS 3 hts gX5_add_X5_in rfl rfl rfl (by decide +kernel) ⟨Nat.le_of_ble_eq_true rfl, Nat.le_of_ble_eq_true rfl⟩) (fw_preS hK hP) rfl rfl hl.1 rfl (lv_room (Nat.le_of_ble_eq_true rfl)) dX5_add_3 ⟨Nat.le_of_ble_eq_true rfl, Nat.le_of_ble_eq_true rfl⟩) hD hS hA (fun r w1 H locs hq hP hD hS => ?_)
  obtain ⟨rfl, rfl⟩ := hq
  refine W.eq (g2 := F0 m 6 ls [.int (b1 (fnd 2 t))]) (by rw [← b1_in (n := 2) (by omega)] <;> rfl) ?_
  rcases oc (fnd 2 t) with hf1 | ⟨i2, hf1⟩
  · refine W.eq (g2 := F0 m 6 ls [.int 0]) (by rw [hf1]; rfl) ?_
    refine lv_if_ne (tgt := 12) hx hb dX5_add_6 (by decide) (fun c9 => absurd c9 (by decide)) (fun _ => ?_)
    refine lv_bipush (v := (-101)) hx hb dX5_add_9 (by decide) ?_
    exact fw_iret hx hb hr hlocks hK hP hD hS dX5_add_11 ⟨_, _, _, by simp [sp_add, pif_True, pif_False, hf1], hR, rfl⟩
  · refine W.eq (g2 := F0 m 6 ls [.int 1]) (by rw [hf1]; rfl) ?_
    obtain ⟨hi2, rfl⟩ := fnd_lt hf1
    refine lv_if_ne (tgt := 12) hx hb dX5_add_6 (by decide) (fun _ => ?_) (fun c9 => absurd c9 (by decide))
    refine lv_aload_n hx hb dX5_add_12 rfl (lv_at hl 0 rfl) ?_
    refine fw_get (v := .ref (ad 9 0)) (C := RX5) (T := TX5) (N := 15) hx hb hts in5 hown hK hP (m_at0 hj) rfl 9 (by decide) (hts (.fieldLink RX5 34 "WagonSidingsModel" "tableLong" "[I") (by decide +kernel)) (fun _ h9 => h9) rfl dX5_add_13 ?_
    refine lv_iload_n hx hb dX5_add_16 rfl (lv_at hl 1 rfl) ?_
    refine fw_iald hx hb hK hP 0 (m_at9 hj) rfl (vp_in_nI (by omega) (by decide)) dX5_add_17 ?_
    by_cases hp3 : I 8 i2 = 0
    · refine W.eq (g2 := F0 m 18 ls [.int (-1)]) (by rw [nI_clamp (by omega), hR.2.2.2.2.2.2.2.2.2.1 _ (by omega), pif_t hp3]) ?_
      refine lv_iconst (v := (-1)) hx hb dX5_add_18 (by decide) ?_
      refine lv_icmp_ne (tgt := 29) hx hb dX5_add_19 (by decide) (fun c9 => absurd rfl c9) (fun _ => ?_)
      refine lv_aload_n hx hb dX5_add_22 rfl (lv_at hl 0 rfl) ?_
      refine lv_iconst (v := 1) hx hb dX5_add_23 (by decide) ?_
      refine lv_iconst (v := 0) hx hb dX5_add_24 (by decide) ?_
      refine fw_calli (va_runV (As := [.int 1, .int 0]) (rest := []) ⟨hx, hb, hml, hown, hts⟩ (c_X5_ends l D kk ad J hj 1 0 _) (cwV 2 hts gX5_add_X5_ends rfl rfl rfl (by decide +kernel) ⟨Nat.le_of_ble_eq_true rfl, Nat.le_of_ble_eq_true rfl⟩) (fw_preV hK hP (ci := 5) rfl (m_at0 hj)) rfl rfl hl.1 rfl (lv_room (Nat.le_of_ble_eq_true rfl)) dX5_add_25 ⟨Nat.le_of_ble_eq_true rfl, Nat.le_of_ble_eq_true rfl⟩) hD hS hA (fun r w1 H locs hq hP hD hS => ?_)
      obtain ⟨rfl, rfl⟩ := hq
      exact fw_iret hx hb hr hlocks hK hP hD hS dX5_add_28 ⟨_, _, _, by simp [sp_add, pif_True, pif_False, hf1, eq_true hp3], mR_tell hR, rfl⟩
    · obtain ⟨c4, d5, hc4, hd5, e6, e7⟩ := hY.2.2.2.2.2.2.2.1 _ hp3
      refine W.eq (g2 := F0 m 18 ls [.int (nI c4)]) (by rw [nI_clamp (by omega), hR.2.2.2.2.2.2.2.2.2.1 _ (by omega), pif_f hp3, e6]) ?_
      refine lv_iconst (v := (-1)) hx hb dX5_add_18 (by decide) ?_
      refine lv_icmp_ne (tgt := 29) hx hb dX5_add_19 (by decide) (fun _ => ?_) (fun c9 => absurd c9 (nI_m1 (by omega)))
      refine lv_iload_n hx hb dX5_add_29 rfl (lv_at hl 2 rfl) ?_
      refine lv_iconst (v := 0) hx hb dX5_add_30 (by decide) ?_
      refine lv_aload_n hx hb dX5_add_31 rfl (lv_at hl 0 rfl) ?_
      refine fw_get (v := .ref (ad 9 0)) (C := RX5) (T := TX5) (N := 15) hx hb hts in5 hown hK hP (m_at0 hj) rfl 9 (by decide) (hts (.fieldLink RX5 34 "WagonSidingsModel" "tableLong" "[I") (by decide +kernel)) (fun _ h9 => h9) rfl dX5_add_32 ?_
      refine lv_iload_n hx hb dX5_add_35 rfl (lv_at hl 1 rfl) ?_
      refine fw_iald hx hb hK hP 0 (m_at9 hj) rfl (vp_in_nI (by omega) (by decide)) dX5_add_36 ?_
      refine W.eq (g2 := F0 m 37 ls [.int (nI c4), .int 0, .int a]) (by rw [nI_clamp (by omega), hR.2.2.2.2.2.2.2.2.2.1 _ (by omega), pif_f hp3, e6]) ?_
      refine lv_iconst (v := 1) hx hb dX5_add_37 (by decide) ?_
      refine lv_isub hx hb dX5_add_38 ?_
      refine fw_calli (va_runS (As := [.int a, .int 0, .int ((nI c4) - 1)]) (rest := []) ⟨hx, hb, hml, hown, hts⟩ (c_X5_in l D kk _ a 0 ((nI c4) - 1) _) (va_cwS 3 hts gX5_add_X5_in rfl rfl rfl (by decide +kernel) ⟨Nat.le_of_ble_eq_true rfl, Nat.le_of_ble_eq_true rfl⟩) (fw_preS hK hP) rfl rfl hl.1 rfl (lv_room (Nat.le_of_ble_eq_true rfl)) dX5_add_39 ⟨Nat.le_of_ble_eq_true rfl, Nat.le_of_ble_eq_true rfl⟩) hD hS hA (fun r w1 H locs hq hP hD hS => ?_)
      obtain ⟨rfl, rfl⟩ := hq
      refine W.eq (g2 := F0 m 42 ls [.int (b1 (fnd c4 a))]) (by rw [← b1_in (n := c4) (by omega)] <;> rfl) ?_
      rcases oc (fnd c4 a) with hf8 | ⟨i9, hf8⟩
      · refine W.eq (g2 := F0 m 42 ls [.int 0]) (by rw [hf8]; rfl) ?_
        refine lv_if_eq (tgt := 61) hx hb dX5_add_42 (by decide) (fun _ => ?_) (fun c9 => absurd c9 (by decide))
        refine lv_aload_n hx hb dX5_add_61 rfl (lv_at hl 0 rfl) ?_
        refine lv_iconst (v := 3) hx hb dX5_add_62 (by decide) ?_
        refine lv_iconst (v := 0) hx hb dX5_add_63 (by decide) ?_
        refine fw_calli (va_runV (As := [.int 3, .int 0]) (rest := []) ⟨hx, hb, hml, hown, hts⟩ (c_X5_ends l D kk ad J hj 3 0 _) (cwV 2 hts gX5_add_X5_ends rfl rfl rfl (by decide +kernel) ⟨Nat.le_of_ble_eq_true rfl, Nat.le_of_ble_eq_true rfl⟩) (fw_preV hK hP (ci := 5) rfl (m_at0 hj)) rfl rfl hl.1 rfl (lv_room (Nat.le_of_ble_eq_true rfl)) dX5_add_64 ⟨Nat.le_of_ble_eq_true rfl, Nat.le_of_ble_eq_true rfl⟩) hD hS hA (fun r w1 H locs hq hP hD hS => ?_)
        obtain ⟨rfl, rfl⟩ := hq
        exact fw_iret hx hb hr hlocks hK hP hD hS dX5_add_67 ⟨_, _, _, by simp only [sp_add, hf1, pif_f hp3, pif_t ((fc_no e6 (by omega) hf8).imp id Or.inl)] <;> rfl, mR_tell hR, rfl⟩
      · refine W.eq (g2 := F0 m 42 ls [.int 1]) (by rw [hf8]; rfl) ?_
        obtain ⟨hi9, rfl⟩ := fnd_lt hf8
        refine lv_if_eq (tgt := 61) hx hb dX5_add_42 (by decide) (fun c9 => absurd c9 (by decide)) (fun _ => ?_)
        refine lv_iload_n hx hb dX5_add_45 rfl (lv_at hl 3 rfl) ?_
        refine lv_iconst (v := 0) hx hb dX5_add_46 (by decide) ?_
        refine lv_aload_n hx hb dX5_add_47 rfl (lv_at hl 0 rfl) ?_
        refine fw_get (v := .ref (ad 10 0)) (C := RX5) (T := TX5) (N := 15) hx hb hts in5 hown hK hP (m_at0 hj) rfl 10 (by decide) (hts (.fieldLink RX5 37 "WagonSidingsModel" "tableWide" "[I") (by decide +kernel)) (fun _ h9 => h9) rfl dX5_add_48 ?_
        refine lv_iload_n hx hb dX5_add_51 rfl (lv_at hl 1 rfl) ?_
        refine fw_iald hx hb hK hP 0 (m_at10 hj) rfl (vp_in_nI (by omega) (by decide)) dX5_add_52 ?_
        refine W.eq (g2 := F0 m 53 ls [.int (nI d5), .int 0, .int b]) (by rw [nI_clamp (by omega), hR.2.2.2.2.2.2.2.2.2.2.1 _ (by omega), e7]) ?_
        refine lv_iconst (v := 1) hx hb dX5_add_53 (by decide) ?_
        refine lv_isub hx hb dX5_add_54 ?_
        refine fw_calli (va_runS (As := [.int b, .int 0, .int ((nI d5) - 1)]) (rest := []) ⟨hx, hb, hml, hown, hts⟩ (c_X5_in l D kk _ b 0 ((nI d5) - 1) _) (va_cwS 3 hts gX5_add_X5_in rfl rfl rfl (by decide +kernel) ⟨Nat.le_of_ble_eq_true rfl, Nat.le_of_ble_eq_true rfl⟩) (fw_preS hK hP) rfl rfl hl.1 rfl (lv_room (Nat.le_of_ble_eq_true rfl)) dX5_add_55 ⟨Nat.le_of_ble_eq_true rfl, Nat.le_of_ble_eq_true rfl⟩) hD hS hA (fun r w1 H locs hq hP hD hS => ?_)
        obtain ⟨rfl, rfl⟩ := hq
        refine W.eq (g2 := F0 m 58 ls [.int (b1 (fnd d5 b))]) (by rw [← b1_in (n := d5) (by omega)] <;> rfl) ?_
        rcases oc (fnd d5 b) with hf10 | ⟨i11, hf10⟩
        · refine W.eq (g2 := F0 m 58 ls [.int 0]) (by rw [hf10]; rfl) ?_
          refine lv_if_ne (tgt := 68) hx hb dX5_add_58 (by decide) (fun c9 => absurd c9 (by decide)) (fun _ => ?_)
          refine lv_aload_n hx hb dX5_add_61 rfl (lv_at hl 0 rfl) ?_
          refine lv_iconst (v := 3) hx hb dX5_add_62 (by decide) ?_
          refine lv_iconst (v := 0) hx hb dX5_add_63 (by decide) ?_
          refine fw_calli (va_runV (As := [.int 3, .int 0]) (rest := []) ⟨hx, hb, hml, hown, hts⟩ (c_X5_ends l D kk ad J hj 3 0 _) (cwV 2 hts gX5_add_X5_ends rfl rfl rfl (by decide +kernel) ⟨Nat.le_of_ble_eq_true rfl, Nat.le_of_ble_eq_true rfl⟩) (fw_preV hK hP (ci := 5) rfl (m_at0 hj)) rfl rfl hl.1 rfl (lv_room (Nat.le_of_ble_eq_true rfl)) dX5_add_64 ⟨Nat.le_of_ble_eq_true rfl, Nat.le_of_ble_eq_true rfl⟩) hD hS hA (fun r w1 H locs hq hP hD hS => ?_)
          obtain ⟨rfl, rfl⟩ := hq
          exact fw_iret hx hb hr hlocks hK hP hD hS dX5_add_67 ⟨_, _, _, by simp only [sp_add, hf1, pif_f hp3]; rw [pif_t (Or.inr (Or.inr (fc_no e7 (by omega) hf10)))] <;> rfl, mR_tell hR, rfl⟩
        · refine W.eq (g2 := F0 m 58 ls [.int 1]) (by rw [hf10]; rfl) ?_
          obtain ⟨hi11, rfl⟩ := fnd_lt hf10
          refine lv_if_ne (tgt := 68) hx hb dX5_add_58 (by decide) (fun _ => ?_) (fun c9 => absurd c9 (by decide))
          refine lv_bipush (v := 72) hx hb dX5_add_68 (by decide) ?_
          refine lv_iload_n hx hb dX5_add_70 rfl (lv_at hl 1 rfl) ?_
          refine lv_imul hx hb dX5_add_71 ?_
          refine W.eq (g2 := F0 m 72 ls [.int (nI (72 * i2))]) (by rw [show (72 : Int32) = nI 72 from rfl, pk_mul]) ?_
          refine lv_bipush (v := 6) hx hb dX5_add_72 (by decide) ?_
          refine lv_iload_n hx hb dX5_add_74 rfl (lv_at hl 2 rfl) ?_
          refine lv_imul hx hb dX5_add_75 ?_
          refine W.eq (g2 := F0 m 76 ls [.int (nI (6 * i9)), .int (nI (72 * i2))]) (by rw [show (6 : Int32) = nI 6 from rfl, pk_mul]) ?_
          refine lv_iadd hx hb dX5_add_76 ?_
          refine W.eq (g2 := F0 m 77 ls [.int (nI (72 * i2 + 6 * i9))]) (by rw [nI_add]) ?_
          refine lv_iload_n hx hb dX5_add_77 rfl (lv_at hl 3 rfl) ?_
          refine lv_iadd hx hb dX5_add_78 ?_
          refine W.eq (g2 := F0 m 79 ls [.int (nI (72 * i2 + 6 * i9 + i11))]) (by rw [nI_add]) ?_
          refine W.eq (g2 := F0 m 79 ls [.int (nI (72 * i2 + (6 * i9 + i11)))]) (by rw [Nat.add_assoc]) ?_
          refine lv_istore (lv' := [(5, .int (nI (72 * i2 + (6 * i9 + i11)))), (0, .ref (ad 0 0)), (1, .int (nI i2)), (2, .int (nI i9)), (3, .int (nI i11)), (4, .int v)]) hx hb dX5_add_79 hl (by decide) rfl (fun ls hl => ?_)
          refine lv_aload_n hx hb dX5_add_81 rfl (lv_at hl 1 rfl) ?_
          refine fw_get (v := .ref (ad 11 0)) (C := RX5) (T := TX5) (N := 15) hx hb hts in5 hown hK hP (m_at0 hj) rfl 11 (by decide) (hts (.fieldLink RX5 40 "WagonSidingsModel" "table" "[I") (by decide +kernel)) (fun _ h9 => h9) rfl dX5_add_82 ?_
          refine lv_iload hx hb dX5_add_85 (lv_at hl 0 rfl) ?_
          refine lv_dup2_11 hx hb dX5_add_87 rfl rfl ?_
          refine fw_iald hx hb hK hP 0 (m_at11 hj) rfl (vp_in_nI (by omega) (by decide)) dX5_add_88 ?_
          refine W.eq (g2 := F0 m 89 ls [.int (I (20 + i2) (6 * i9 + i11)), .int (nI (72 * i2 + (6 * i9 + i11))), .ref (ad 11 0)]) (by rw [nI_clamp (by omega), hR.2.2.2.2.2.2.2.2.2.2.2.1 i2 (6 * i9 + i11) (by omega) (by omega)]) ?_
          refine lv_iload hx hb dX5_add_89 (lv_at hl 5 rfl) ?_
          refine lv_iadd hx hb dX5_add_91 ?_
          refine fw_iast (w1 := mw kk ad (upI J 11 (72 * i2 + (6 * i9 + i11)) ((I (20 + i2) (6 * i9 + i11)) + v))) hx hb hK hP hD hS 0 (m_at11 hj) rfl (vp_in_nI (by omega) (by decide)) dX5_add_92 (by rw [nI_clamp (by omega)]; exact m_st (by omega) hj) (fun H locs hP hD hS => ?_)
          refine lv_aload_n hx hb dX5_add_93 rfl (lv_at hl 1 rfl) ?_
          refine lv_aload_n hx hb dX5_add_94 rfl (lv_at hl 1 rfl) ?_
          refine fw_get (v := .ref (ad 11 0)) (C := RX5) (T := TX5) (N := 15) hx hb hts in5 hown hK hP (m_at0 hj) rfl 11 (by decide) (hts (.fieldLink RX5 40 "WagonSidingsModel" "table" "[I") (by decide +kernel)) (fun _ h9 => h9) rfl dX5_add_95 ?_
          refine lv_iload hx hb dX5_add_98 (lv_at hl 0 rfl) ?_
          refine fw_iald hx hb hK hP 0 (m_at11 hj) rfl (vp_in_nI (by omega) (by decide)) dX5_add_100 ?_
          refine W.eq (g2 := F0 m 101 ls [.int (I (20 + i2) (6 * i9 + i11) + v), .ref (ad 0 0)]) (by rw [nI_clamp (by omega), upI_s]) ?_
          refine lv_iconst (v := 0) hx hb dX5_add_101 (by decide) ?_
          refine fw_calli (va_runV (As := [.int (I (20 + i2) (6 * i9 + i11) + v), .int 0]) (rest := []) ⟨hx, hb, hml, hown, hts⟩ (c_X5_well l D kk ad (upI J 11 (72 * i2 + (6 * i9 + i11)) ((I (20 + i2) (6 * i9 + i11)) + v)) hj (I (20 + i2) (6 * i9 + i11) + v) 0 _) (cwV 2 hts gX5_add_X5_well rfl rfl rfl (by decide +kernel) ⟨Nat.le_of_ble_eq_true rfl, Nat.le_of_ble_eq_true rfl⟩) (fw_preV hK hP (ci := 5) rfl (m_at0 hj)) rfl rfl hl.1 rfl (lv_room (Nat.le_of_ble_eq_true rfl)) dX5_add_102 ⟨Nat.le_of_ble_eq_true rfl, Nat.le_of_ble_eq_true rfl⟩) hD hS hA (fun r w1 H locs hq hP hD hS => ?_)
          obtain ⟨rfl, rfl⟩ := hq
          exact fw_iret hx hb hr hlocks hK hP hD hS dX5_add_105 ⟨_, _, _, by simp only [sp_add, hf1, pif_f hp3, pif_f (tc_yes e6 e7 hi9 hi11 (by omega) (by omega)), nI_clamp (show i9 < 2 ^ 31 by omega), nI_clamp (show i11 < 2 ^ 31 by omega)], mR_tell (mR_cell hR (by omega) (by omega)), rfl⟩

