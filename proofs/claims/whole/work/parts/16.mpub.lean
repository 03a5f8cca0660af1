theorem tl_up {I : sI} {f c : Int32} {g x : Nat} {v : Int32} (h : ¬ g = 11) : tl (upI I g x v) f c = upI (tl I f c) g x v := by
  funext a b
  by_cases h1 : a = g ∧ b = x
  · rw [h1.1, h1.2, tl_ne h, upI_s, upI_s]
  · rw [upI_n h1]
    by_cases h2 : a = 11
    · subst h2
      unfold tl upI
      by_cases z0 : b = 0 <;> by_cases z1 : b = 1 <;> by_cases z2 : b = 2 <;> simp_all
    · rw [tl_ne h2, tl_ne h2, upI_n h1]
theorem upO_id {O : sO} {f x : Nat} {v : Option Nat} (h : O f x = v) : upO O f x v = O := by
  funext a b
  by_cases h1 : a = f ∧ b = x
  · rw [h1.1, h1.2, upO_s, h]
  · rw [upO_n h1]
theorem rch_m {O : sO} {t : Int32} {k x : Nat} (h6 : fnd 6 t = some k) (hb : ¬ (nI x < 0 ∨ 40 < nI x)) (hx : x ≤ 40) : rch O t (nI x) = wk (O 0) x (O 1 k) := by
  unfold rch
  rw [h6]
  dsimp only
  rw [pif_f hb, nI_clamp (by omega)]
theorem sp_at_none {I : sI} {O : sO} {t : Int32} {k x : Nat} (h6 : fnd 6 t = some k) (hb : ¬ (nI x < 0 ∨ 40 < nI x)) (hx : x ≤ 40) (hw : wk (O 0) x (O 1 k) = none) (f : Nat → sI → sR) : sp_at I O t (nI x) f = (-201, tl I 1 (nI (clen (O 0) (O 1 k))), O) := by
  unfold sp_at
  rw [h6]
  dsimp only
  rw [pif_f hb, nI_clamp (by omega), hw]
theorem sp_at_x {I : sI} {O : sO} {t : Int32} {k x j : Nat} (h6 : fnd 6 t = some k) (hb : ¬ (nI x < 0 ∨ 40 < nI x)) (hx : x ≤ 40) (hw : wk (O 0) x (O 1 k) = some j) (f : Nat → sI → sR) : sp_at I O t (nI x) f = f j (tl I 0 (nI x)) := sp_at_some ((rch_m h6 hb hx).trans hw) f
theorem sp_at_u {I : sI} {O : sO} {t a : Int32} (h6 : fnd 6 t = none) (f : Nat → sI → sR) : sp_at I O t a f = (-101, I, O) := by
  unfold sp_at
  rw [h6]
theorem sp_at_o {I : sI} {O : sO} {t a : Int32} {k : Nat} (h6 : fnd 6 t = some k) (hb : a < 0 ∨ 40 < a) (f : Nat → sI → sR) : sp_at I O t a f = (-102, I, O) := by
  unfold sp_at
  rw [h6]
  dsimp only
  rw [pif_t hb]
theorem kd5 {k : Int32} (h : isKd k) : k = 0 ∨ k = 1 ∨ k = 2 ∨ k = 3 ∨ k = 4 := by
  obtain ⟨j, hj, rfl⟩ := nI_of h.1
  have h2 := h.2
  rw [show (4 : Int32) = nI 4 from rfl, nI_ltI (by decide) hj] at h2
  rcases (show j = 0 ∨ j = 1 ∨ j = 2 ∨ j = 3 ∨ j = 4 by omega) with rfl | rfl | rfl | rfl | rfl
  · exact Or.inl rfl
  · exact Or.inr (Or.inl rfl)
  · exact Or.inr (Or.inr (Or.inl rfl))
  · exact Or.inr (Or.inr (Or.inr (Or.inl rfl)))
  · exact Or.inr (Or.inr (Or.inr (Or.inr rfl)))
theorem hoot_0 {k v : Int32} (h : k = 0) : hoot k v = v := by
  subst h
  rfl
theorem hoot_12 {k v : Int32} (hk : isKd k) (h0 : ¬ k = 0) (h : ¬ 3 ≤ k) : hoot k v = v + 1 := by
  rcases kd5 hk with rfl | rfl | rfl | rfl | rfl
  · exact absurd rfl h0
  · rfl
  · rfl
  · exact absurd (by decide) h
  · exact absurd (by decide) h
theorem hoot_3 {k v : Int32} (h : k = 3) : hoot k v = 10 * v := by
  subst h
  rfl
theorem hoot_4 {k v : Int32} (hk : isKd k) (h3 : ¬ k = 3) (h : 3 ≤ k) : hoot k v = 10 * v - 1 := by
  rcases kd5 hk with rfl | rfl | rfl | rfl | rfl
  · exact absurd h (by decide)
  · exact absurd h (by decide)
  · exact absurd h (by decide)
  · exact absurd rfl h3
  · rfl
theorem isOf_3 {k : Int32} (hk : isKd k) (h : 3 ≤ k) : isOf k 3 := by
  rcases kd5 hk with rfl | rfl | rfl | rfl | rfl
  · exact absurd h (by decide)
  · exact absurd h (by decide)
  · exact absurd h (by decide)
  · exact Or.inr (Or.inl rfl)
  · exact Or.inr (Or.inr (Or.inr ⟨rfl, rfl⟩))
theorem isOf_n3 {k : Int32} (hk : isKd k) (h : ¬ 3 ≤ k) : ¬ isOf k 3 := by
  rcases kd5 hk with rfl | rfl | rfl | rfl | rfl
  · unfold isOf; decide
  · unfold isOf; decide
  · unfold isOf; decide
  · exact absurd (by decide) h
  · exact absurd (by decide) h

set_option maxHeartbeats 4000000 in
set_option maxRecDepth 100000 in
theorem c_X5_signal (l : Launch) (D : va_G) (kk : Nat → ClassId) (ad : Nat → Nat → Nat) (n : Nat) (I : sI) (O : sO) (J : sI) (hj : sj mV ad) (hY : yI n I O) (hR : mR n I O J) (t v : Int32) : fw_Mi l yX5_signal wsX5_signal { frames := 2, cells := 0, slots := 0, locals := 42 } 0 0 D vwCl (xT kk) (mw kk ad J) [.ref (ad 0 0), .int t, .int v] (fun r w1 => ∃ I1 O1 J1, sp_signal I O t v = (r, I1, O1) ∧ mR n I1 O1 J1 ∧ w1 = mw kk ad J1) := by
  refine fw_ofi (cc := cX5_signal) (maxL := 4) (ret := (some .int)) (by decide) rfl (Nat.le_of_ble_eq_true rfl) ?_
  intro p e s m args below meth c A ls hx hb hml hr hlocks hnm hts hown hK hP hD hA hS hl
  have hown : s.vm.findClass RX5 = some m.cls := hown
  have hl : lv_has ls 4 [(0, .ref (ad 0 0)), (1, .int t), (2, .int v)] := hl
  have in5 : ∀ w ∈ u_ws RX5 TX5 15, w ∈ wsX5_signal := by decide +kernel
  have hn40 := hY.1.1
  refine lv_iload_n hx hb dX5_signal_0 rfl (lv_at hl 1 rfl) ?_
  refine fw_calli (va_runS (As := [.int t]) (rest := []) ⟨hx, hb, hml, hown, hts⟩ (c_X5_isTrack l D kk _ t _) (va_cwS 1 hts gX5_signal_X5_isTrack rfl rfl rfl (by decide +kernel) ⟨Nat.le_of_ble_eq_true rfl, Nat.le_of_ble_eq_true rfl⟩) (fw_preS hK hP) rfl rfl hl.1 rfl (lv_room (Nat.le_of_ble_eq_true rfl)) dX5_signal_1 ⟨Nat.le_of_ble_eq_true rfl, Nat.le_of_ble_eq_true rfl⟩) hD hS hA (fun r w1 H locs hq hP hD hS => ?_)
  obtain ⟨rfl, rfl⟩ := hq
  rcases oc (fnd 6 t) with hf1 | ⟨i2, hf1⟩
  · refine W.eq (g2 := F0 m 4 ls [.int 0]) (by rw [hf1]; rfl) ?_
    refine lv_if_ne (tgt := 10) hx hb dX5_signal_4 (by decide) (fun c9 => absurd c9 (by decide)) (fun _ => ?_)
    refine lv_bipush (v := (-101)) hx hb dX5_signal_7 (by decide) ?_
    exact fw_iret hx hb hr hlocks hK hP hD hS dX5_signal_9 ⟨_, _, _, by simp [sp_signal, pif_True, pif_False, hf1], hR, rfl⟩
  · refine W.eq (g2 := F0 m 4 ls [.int 1]) (by rw [hf1]; rfl) ?_
    obtain ⟨hi2, rfl⟩ := fnd_lt hf1
    refine lv_if_ne (tgt := 10) hx hb dX5_signal_4 (by decide) (fun _ => ?_) (fun c9 => absurd c9 (by decide))
    refine lv_iload_n hx hb dX5_signal_10 rfl (lv_at hl 2 rfl) ?_
    refine lv_iconst (v := (-1)) hx hb dX5_signal_11 (by decide) ?_
    refine lv_icmp_ge (tgt := 18) hx hb dX5_signal_12 (by decide) (fun c_12 => ?_) (fun c_12 => ?_)
    · refine lv_aload_n hx hb dX5_signal_18 rfl (lv_at hl 0 rfl) ?_
      refine fw_get (v := .ref (ad 5 0)) (C := RX5) (T := TX5) (N := 15) hx hb hts in5 hown hK hP (m_at0 hj) rfl 5 (by decide) (hts (.fieldLink RX5 22 "WagonSidingsModel" "signal" "[I") (by decide +kernel)) (fun _ h9 => h9) rfl dX5_signal_19 ?_
      refine lv_iload_n hx hb dX5_signal_22 rfl (lv_at hl 1 rfl) ?_
      refine fw_iald hx hb hK hP 0 (m_at5 hj) rfl (vp_in_nI (by omega) (by decide)) dX5_signal_23 ?_
      refine W.eq (g2 := F0 m 24 ls [.int (I 4 i2)]) (by rw [nI_clamp (by omega), hR.2.2.2.2.2.1 _ (by omega)]) ?_
      refine lv_istore_n (lv' := [(3, .int (I 4 i2)), (0, .ref (ad 0 0)), (1, .int (nI i2)), (2, .int v)]) hx hb dX5_signal_24 rfl hl (by decide) rfl (fun ls hl => ?_)
      refine lv_aload_n hx hb dX5_signal_25 rfl (lv_at hl 1 rfl) ?_
      refine fw_get (v := .ref (ad 5 0)) (C := RX5) (T := TX5) (N := 15) hx hb hts in5 hown hK hP (m_at0 hj) rfl 5 (by decide) (hts (.fieldLink RX5 22 "WagonSidingsModel" "signal" "[I") (by decide +kernel)) (fun _ h9 => h9) rfl dX5_signal_26 ?_
      refine lv_iload_n hx hb dX5_signal_29 rfl (lv_at hl 2 rfl) ?_
      refine lv_iload_n hx hb dX5_signal_30 rfl (lv_at hl 3 rfl) ?_
      refine fw_iast (w1 := mw kk ad (upI J 5 i2 v)) hx hb hK hP hD hS 0 (m_at5 hj) rfl (vp_in_nI (by omega) (by decide)) dX5_signal_31 (by rw [nI_clamp (by omega)]; exact m_st (by omega) hj) (fun H locs hP hD hS => ?_)
      refine lv_iload_n hx hb dX5_signal_32 rfl (lv_at hl 0 rfl) ?_
      exact fw_iret hx hb hr hlocks hK hP hD hS dX5_signal_33 ⟨_, _, _, by simp [sp_signal, pif_True, pif_False, hf1, c_12, Int32.not_lt.mpr c_12], mR_sig hR, rfl⟩
    · refine lv_bipush (v := (-102)) hx hb dX5_signal_15 (by decide) ?_
      exact fw_iret hx hb hr hlocks hK hP hD hS dX5_signal_17 ⟨_, _, _, by simp [sp_signal, pif_True, pif_False, hf1, c_12, Int32.not_le.mp c_12], hR, rfl⟩

set_option maxHeartbeats 4000000 in
set_option maxRecDepth 100000 in
theorem c_X5_couple (l : Launch) (D : va_G) (kk : Nat → ClassId) (ad : Nat → Nat → Nat) (n : Nat) (I : sI) (O : sO) (J : sI) (hj : sj mV ad) (hY : yI n I O) (hR : mR n I O J) (a b : Int32) : fw_Mi l yX5_couple wsX5_couple { frames := 2, cells := 0, slots := 0, locals := 43 } 0 0 D vwCl (xT kk) (mw kk ad J) [.ref (ad 0 0), .int a, .int b] (fun r w1 => ∃ I1 O1 J1, sp_couple n I O a b = (r, I1, O1) ∧ mR n I1 O1 J1 ∧ w1 = mw kk ad J1) := by
  refine fw_ofi (cc := cX5_couple) (maxL := 4) (ret := (some .int)) (by decide) rfl (Nat.le_of_ble_eq_true rfl) ?_
  intro p e s m args below meth c A ls hx hb hml hr hlocks hnm hts hown hK hP hD hA hS hl
  have hown : s.vm.findClass RX5 = some m.cls := hown
  have hl : lv_has ls 4 [(0, .ref (ad 0 0)), (1, .int a), (2, .int b)] := hl
  have in5 : ∀ w ∈ u_ws RX5 TX5 15, w ∈ wsX5_couple := by decide +kernel
  have hn40 := hY.1.1
  have loop : ∀ (a0 b0 : Nat), a0 < n → b0 < n → fnd n (nI a0) = some a0 → fnd n (nI b0) = some b0 → O 0 a0 = none → I 2 b0 = 0 → I 3 b0 = -1 → ∀ (f : Nat) (o : Option Nat) (H : Heap) (locs : List Loc) (ls : Array Slot), fw_P D vwCl (mw kk ad J) H → fw_D A (mw kk ad J) → va_S A s.heap H locs → wk (O 0) f o = none → (∀ y, o = some y → y < n) → (cin (O 0) (some b0) a0 ↔ cin (O 0) o a0) → lv_has ls 4 [(3, .int (num o)), (0, .ref (ad 0 0)), (1, .int (nI a0)), (2, .int (nI b0))] → W p l e { frames := 2, cells := 0, slots := 0, locals := 43 } s m args below meth c H locs 0 0 (MQ below (va_Qi (fun r w1 => ∃ I1 O1 J1, sp_couple n I O (nI a0) (nI b0) = (r, I1, O1) ∧ mR n I1 O1 J1 ∧ w1 = mw kk ad J1) (fw_B D vwCl (xT kk) A) A) args s 0 0 A) (F0 m 51 ls []) := by
    intro a0 b0 ha0 hb0 hfa hfb hoa h2b h3b f
    induction f with
    | zero =>
      intro o H locs ls hP hD hS ho hro hc hl
      have h0 : o = none := ho
      subst h0
      have hl : lv_has ls 4 [(3, .int (-1)), (0, .ref (ad 0 0)), (1, .int (nI a0)), (2, .int (nI b0))] := hl
      refine lv_iload_n hx hb dX5_couple_51 rfl (lv_at hl 0 rfl) ?_
      refine lv_iconst (v := (-1)) hx hb dX5_couple_52 (by decide) ?_
      refine lv_icmp_eq (tgt := 74) hx hb dX5_couple_53 (by decide) (fun _ => ?_) (fun c9 => absurd rfl c9)
      refine lv_aload_n hx hb dX5_couple_74 rfl (lv_at hl 1 rfl) ?_
      refine fw_get (v := .ref (ad 3 0)) (C := RX5) (T := TX5) (N := 15) hx hb hts in5 hown hK hP (m_at0 hj) rfl 3 (by decide) (hts (.fieldLink RX5 16 "WagonSidingsModel" "behind" "[I") (by decide +kernel)) (fun _ h9 => h9) rfl dX5_couple_75 ?_
      refine lv_iload_n hx hb dX5_couple_78 rfl (lv_at hl 2 rfl) ?_
      refine lv_iload_n hx hb dX5_couple_79 rfl (lv_at hl 3 rfl) ?_
      refine fw_iast (w1 := mw kk ad (upI J 3 a0 (nI b0))) hx hb hK hP hD hS 0 (m_at3 hj) rfl (vp_in_nI (by omega) (by decide)) dX5_couple_80 (by rw [nI_clamp (by omega)]; exact m_st (by omega) hj) (fun H locs hP hD hS => ?_)
      refine lv_iconst (v := 1) hx hb dX5_couple_81 (by decide) ?_
      exact fw_iret hx hb hr hlocks hK hP hD hS dX5_couple_82 ⟨_, _, _, by rw [sp_couple, hfa]; dsimp only; rw [hfb]; exact pif_f (fun z => by rcases z with z | z | z | z; exact z hoa; exact z h2b; exact z h3b; exact cin_none (hc.mp z)), mR_f2 (j := b0) (v := 1) (mR_beh (o := some b0) hR), rfl⟩
    | succ f ih =>
      intro o H locs ls hP hD hS ho hro hc hl
      rcases o with _ | y
      · have hl : lv_has ls 4 [(3, .int (-1)), (0, .ref (ad 0 0)), (1, .int (nI a0)), (2, .int (nI b0))] := hl
        refine lv_iload_n hx hb dX5_couple_51 rfl (lv_at hl 0 rfl) ?_
        refine lv_iconst (v := (-1)) hx hb dX5_couple_52 (by decide) ?_
        refine lv_icmp_eq (tgt := 74) hx hb dX5_couple_53 (by decide) (fun _ => ?_) (fun c9 => absurd rfl c9)
        refine lv_aload_n hx hb dX5_couple_74 rfl (lv_at hl 1 rfl) ?_
        refine fw_get (v := .ref (ad 3 0)) (C := RX5) (T := TX5) (N := 15) hx hb hts in5 hown hK hP (m_at0 hj) rfl 3 (by decide) (hts (.fieldLink RX5 16 "WagonSidingsModel" "behind" "[I") (by decide +kernel)) (fun _ h9 => h9) rfl dX5_couple_75 ?_
        refine lv_iload_n hx hb dX5_couple_78 rfl (lv_at hl 2 rfl) ?_
        refine lv_iload_n hx hb dX5_couple_79 rfl (lv_at hl 3 rfl) ?_
        refine fw_iast (w1 := mw kk ad (upI J 3 a0 (nI b0))) hx hb hK hP hD hS 0 (m_at3 hj) rfl (vp_in_nI (by omega) (by decide)) dX5_couple_80 (by rw [nI_clamp (by omega)]; exact m_st (by omega) hj) (fun H locs hP hD hS => ?_)
        refine lv_iconst (v := 1) hx hb dX5_couple_81 (by decide) ?_
        exact fw_iret hx hb hr hlocks hK hP hD hS dX5_couple_82 ⟨_, _, _, by rw [sp_couple, hfa]; dsimp only; rw [hfb]; exact pif_f (fun z => by rcases z with z | z | z | z; exact z hoa; exact z h2b; exact z h3b; exact cin_none (hc.mp z)), mR_f2 (j := b0) (v := 1) (mR_beh (o := some b0) hR), rfl⟩
      · have hy0 := hro y rfl
        have hl : lv_has ls 4 [(3, .int (nI y)), (0, .ref (ad 0 0)), (1, .int (nI a0)), (2, .int (nI b0))] := hl
        refine lv_iload_n hx hb dX5_couple_51 rfl (lv_at hl 0 rfl) ?_
        refine lv_iconst (v := (-1)) hx hb dX5_couple_52 (by decide) ?_
        refine lv_icmp_eq (tgt := 74) hx hb dX5_couple_53 (by decide) (fun c9 => absurd c9 (nI_m1 (by omega))) (fun _ => ?_)
        refine lv_iload_n hx hb dX5_couple_56 rfl (lv_at hl 0 rfl) ?_
        refine lv_iload_n hx hb dX5_couple_57 rfl (lv_at hl 2 rfl) ?_
        refine lv_icmp_ne (tgt := 64) hx hb dX5_couple_58 (by decide) (fun c_58 => ?_) (fun c_58 => ?_)
        · refine lv_aload_n hx hb dX5_couple_64 rfl (lv_at hl 1 rfl) ?_
          refine fw_get (v := .ref (ad 3 0)) (C := RX5) (T := TX5) (N := 15) hx hb hts in5 hown hK hP (m_at0 hj) rfl 3 (by decide) (hts (.fieldLink RX5 16 "WagonSidingsModel" "behind" "[I") (by decide +kernel)) (fun _ h9 => h9) rfl dX5_couple_65 ?_
          refine lv_iload_n hx hb dX5_couple_68 rfl (lv_at hl 0 rfl) ?_
          refine fw_iald hx hb hK hP 0 (m_at3 hj) rfl (vp_in_nI (by omega) (by decide)) dX5_couple_69 ?_
          rcases oc (O 0 y) with ho1 | ⟨j2, ho1⟩
          · refine W.eq (g2 := F0 m 70 ls [.int (-1)]) (by rw [nI_clamp (by omega), hR.2.2.2.1 _ (by omega), ho1]; rfl) ?_
            refine lv_istore_n (lv' := [(3, .int (-1)), (0, .ref (ad 0 0)), (1, .int (nI a0)), (2, .int (nI b0))]) hx hb dX5_couple_70 rfl hl (by decide) rfl (fun ls hl => ?_)
            refine lv_goto (tgt := 51) hx hb dX5_couple_71 (by decide) ?_
            exact ih none H locs ls hP hD hS (by have h9 := ho; rw [wk_some, ho1] at h9; exact h9) (fun y q => by cases q) (by have h9 := hc.trans (cin_some.trans (or_iff_right (fun z => c_58 (by rw [z])))); rw [ho1] at h9; exact h9) (lv_sub hl [0, 1, 2, 3] rfl)
          · have hj2 := hY.1.2.1 _ _ _ ho1
            refine W.eq (g2 := F0 m 70 ls [.int (nI j2)]) (by rw [nI_clamp (by omega), hR.2.2.2.1 _ (by omega), ho1]; rfl) ?_
            refine lv_istore_n (lv' := [(3, .int (nI j2)), (0, .ref (ad 0 0)), (1, .int (nI a0)), (2, .int (nI b0))]) hx hb dX5_couple_70 rfl hl (by decide) rfl (fun ls hl => ?_)
            refine lv_goto (tgt := 51) hx hb dX5_couple_71 (by decide) ?_
            exact ih (some j2) H locs ls hP hD hS (by have h9 := ho; rw [wk_some, ho1] at h9; exact h9) (fun y q => by cases q; exact hj2) (by have h9 := hc.trans (cin_some.trans (or_iff_right (fun z => c_58 (by rw [z])))); rw [ho1] at h9; exact h9) (lv_sub hl [0, 1, 2, 3] rfl)
        · refine lv_bipush (v := (-103)) hx hb dX5_couple_61 (by decide) ?_
          exact fw_iret hx hb hr hlocks hK hP hD hS dX5_couple_63 ⟨_, _, _, by rw [sp_couple, hfa]; dsimp only; rw [hfb]; exact pif_t (Or.inr (Or.inr (Or.inr (hc.mpr (cin_some.mpr (Or.inl ((nI_eq (by omega) (by omega)).mp c_58))))))), hR, rfl⟩
  refine lv_aload_n hx hb dX5_couple_0 rfl (lv_at hl 0 rfl) ?_
  refine lv_iload_n hx hb dX5_couple_1 rfl (lv_at hl 1 rfl) ?_
  refine fw_calli (va_runV (As := [.int a]) (rest := []) ⟨hx, hb, hml, hown, hts⟩ (c_X5_isWagon l D kk ad n I O J hj hY hR a _) (cwV 1 hts gX5_couple_X5_isWagon rfl rfl rfl (by decide +kernel) ⟨Nat.le_of_ble_eq_true rfl, Nat.le_of_ble_eq_true rfl⟩) (fw_preV hK hP (ci := 5) rfl (m_at0 hj)) rfl rfl hl.1 rfl (lv_room (Nat.le_of_ble_eq_true rfl)) dX5_couple_2 ⟨Nat.le_of_ble_eq_true rfl, Nat.le_of_ble_eq_true rfl⟩) hD hS hA (fun r w1 H locs hq hP hD hS => ?_)
  obtain ⟨rfl, rfl⟩ := hq
  rcases oc (fnd n a) with hf3 | ⟨i4, hf3⟩
  · refine W.eq (g2 := F0 m 5 ls [.int 0]) (by rw [hf3]; rfl) ?_
    refine lv_if_eq (tgt := 16) hx hb dX5_couple_5 (by decide) (fun _ => ?_) (fun c9 => absurd c9 (by decide))
    refine lv_bipush (v := (-101)) hx hb dX5_couple_16 (by decide) ?_
    exact fw_iret hx hb hr hlocks hK hP hD hS dX5_couple_18 ⟨_, _, _, by simp [sp_couple, pif_True, pif_False, hf3], hR, rfl⟩
  · refine W.eq (g2 := F0 m 5 ls [.int 1]) (by rw [hf3]; rfl) ?_
    obtain ⟨hi4, rfl⟩ := fnd_lt hf3
    refine lv_if_eq (tgt := 16) hx hb dX5_couple_5 (by decide) (fun c9 => absurd c9 (by decide)) (fun _ => ?_)
    refine lv_aload_n hx hb dX5_couple_8 rfl (lv_at hl 0 rfl) ?_
    refine lv_iload_n hx hb dX5_couple_9 rfl (lv_at hl 2 rfl) ?_
    refine fw_calli (va_runV (As := [.int b]) (rest := []) ⟨hx, hb, hml, hown, hts⟩ (c_X5_isWagon l D kk ad n I O J hj hY hR b _) (cwV 1 hts gX5_couple_X5_isWagon rfl rfl rfl (by decide +kernel) ⟨Nat.le_of_ble_eq_true rfl, Nat.le_of_ble_eq_true rfl⟩) (fw_preV hK hP (ci := 5) rfl (m_at0 hj)) rfl rfl hl.1 rfl (lv_room (Nat.le_of_ble_eq_true rfl)) dX5_couple_10 ⟨Nat.le_of_ble_eq_true rfl, Nat.le_of_ble_eq_true rfl⟩) hD hS hA (fun r w1 H locs hq hP hD hS => ?_)
    obtain ⟨rfl, rfl⟩ := hq
    rcases oc (fnd n b) with hf5 | ⟨i6, hf5⟩
    · refine W.eq (g2 := F0 m 13 ls [.int 0]) (by rw [hf5]; rfl) ?_
      refine lv_if_ne (tgt := 19) hx hb dX5_couple_13 (by decide) (fun c9 => absurd c9 (by decide)) (fun _ => ?_)
      refine lv_bipush (v := (-101)) hx hb dX5_couple_16 (by decide) ?_
      exact fw_iret hx hb hr hlocks hK hP hD hS dX5_couple_18 ⟨_, _, _, by simp [sp_couple, pif_True, pif_False, hf3, hf5], hR, rfl⟩
    · refine W.eq (g2 := F0 m 13 ls [.int 1]) (by rw [hf5]; rfl) ?_
      obtain ⟨hi6, rfl⟩ := fnd_lt hf5
      refine lv_if_ne (tgt := 19) hx hb dX5_couple_13 (by decide) (fun _ => ?_) (fun c9 => absurd c9 (by decide))
      refine lv_aload_n hx hb dX5_couple_19 rfl (lv_at hl 0 rfl) ?_
      refine fw_get (v := .ref (ad 3 0)) (C := RX5) (T := TX5) (N := 15) hx hb hts in5 hown hK hP (m_at0 hj) rfl 3 (by decide) (hts (.fieldLink RX5 16 "WagonSidingsModel" "behind" "[I") (by decide +kernel)) (fun _ h9 => h9) rfl dX5_couple_20 ?_
      refine lv_iload_n hx hb dX5_couple_23 rfl (lv_at hl 1 rfl) ?_
      refine fw_iald hx hb hK hP 0 (m_at3 hj) rfl (vp_in_nI (by omega) (by decide)) dX5_couple_24 ?_
      rcases oc (O 0 i4) with ho7 | ⟨j8, ho7⟩
      · refine W.eq (g2 := F0 m 25 ls [.int (-1)]) (by rw [nI_clamp (by omega), hR.2.2.2.1 _ (by omega), ho7]; rfl) ?_
        refine lv_iconst (v := (-1)) hx hb dX5_couple_25 (by decide) ?_
        refine lv_icmp_ne (tgt := 46) hx hb dX5_couple_26 (by decide) (fun c9 => absurd rfl c9) (fun _ => ?_)
        refine lv_aload_n hx hb dX5_couple_29 rfl (lv_at hl 0 rfl) ?_
        refine lv_iload_n hx hb dX5_couple_30 rfl (lv_at hl 2 rfl) ?_
        refine fw_calli (va_runV (As := [.int (nI i6)]) (rest := []) ⟨hx, hb, hml, hown, hts⟩ (c_X5_hasAhead l D kk ad n I O J hj hY hR i6 (by omega) _) (cwV 1 hts gX5_couple_X5_hasAhead rfl rfl rfl (by decide +kernel) ⟨Nat.le_of_ble_eq_true rfl, Nat.le_of_ble_eq_true rfl⟩) (fw_preV hK hP (ci := 5) rfl (m_at0 hj)) rfl rfl hl.1 rfl (lv_room (Nat.le_of_ble_eq_true rfl)) dX5_couple_31 ⟨Nat.le_of_ble_eq_true rfl, Nat.le_of_ble_eq_true rfl⟩) hD hS hA (fun r w1 H locs hq hP hD hS => ?_)
        obtain ⟨rfl, rfl⟩ := hq
        by_cases hb9 : ¬ I 2 i6 = 0
        · rw [pif_t hb9]
          refine lv_if_ne (tgt := 46) hx hb dX5_couple_34 (by decide) (fun _ => ?_) (fun c9 => absurd c9 (by decide))
          refine lv_bipush (v := (-103)) hx hb dX5_couple_46 (by decide) ?_
          exact fw_iret hx hb hr hlocks hK hP hD hS dX5_couple_48 ⟨_, _, _, by simp [sp_couple, pif_True, pif_False, hf3, hf5, ho7, hb9], hR, rfl⟩
        · rw [pif_f hb9]
          refine lv_if_ne (tgt := 46) hx hb dX5_couple_34 (by decide) (fun c9 => absurd c9 (by decide)) (fun _ => ?_)
          refine lv_aload_n hx hb dX5_couple_37 rfl (lv_at hl 0 rfl) ?_
          refine lv_iload_n hx hb dX5_couple_38 rfl (lv_at hl 2 rfl) ?_
          refine fw_calli (va_runV (As := [.int (nI i6)]) (rest := []) ⟨hx, hb, hml, hown, hts⟩ (c_X5_trackOf l D kk ad n I O J hj hY hR i6 (by omega) _) (cwV 1 hts gX5_couple_X5_trackOf rfl rfl rfl (by decide +kernel) ⟨Nat.le_of_ble_eq_true rfl, Nat.le_of_ble_eq_true rfl⟩) (fw_preV hK hP (ci := 5) rfl (m_at0 hj)) rfl rfl hl.1 rfl (lv_room (Nat.le_of_ble_eq_true rfl)) dX5_couple_39 ⟨Nat.le_of_ble_eq_true rfl, Nat.le_of_ble_eq_true rfl⟩) hD hS hA (fun r w1 H locs hq hP hD hS => ?_)
          obtain ⟨rfl, rfl⟩ := hq
          refine lv_iconst (v := (-1)) hx hb dX5_couple_42 (by decide) ?_
          refine lv_icmp_eq (tgt := 49) hx hb dX5_couple_43 (by decide) (fun c_43 => ?_) (fun c_43 => ?_)
          · refine lv_iload_n hx hb dX5_couple_49 rfl (lv_at hl 2 rfl) ?_
            refine lv_istore_n (lv' := [(3, .int (nI i6)), (0, .ref (ad 0 0)), (1, .int (nI i4)), (2, .int (nI i6))]) hx hb dX5_couple_50 rfl hl (by decide) rfl (fun ls hl => ?_)
            obtain ⟨f0, hf0⟩ := hY.1.2.2 (some i6)
            exact loop i4 i6 hi4 hi6 hf3 hf5 ho7 (Classical.byContradiction hb9) c_43 f0 (some i6) _ _ ls hP hD hS hf0 (fun y q => by cases q; exact hi6) Iff.rfl (lv_sub hl [0, 1, 2, 3] rfl)
          · refine lv_bipush (v := (-103)) hx hb dX5_couple_46 (by decide) ?_
            exact fw_iret hx hb hr hlocks hK hP hD hS dX5_couple_48 ⟨_, _, _, by simp [sp_couple, pif_True, pif_False, hf3, hf5, ho7, hb9, c_43], hR, rfl⟩
      · have hj8 := hY.1.2.1 _ _ _ ho7
        refine W.eq (g2 := F0 m 25 ls [.int (nI j8)]) (by rw [nI_clamp (by omega), hR.2.2.2.1 _ (by omega), ho7]; rfl) ?_
        refine lv_iconst (v := (-1)) hx hb dX5_couple_25 (by decide) ?_
        refine lv_icmp_ne (tgt := 46) hx hb dX5_couple_26 (by decide) (fun _ => ?_) (fun c9 => absurd c9 (nI_m1 (by omega)))
        refine lv_bipush (v := (-103)) hx hb dX5_couple_46 (by decide) ?_
        exact fw_iret hx hb hr hlocks hK hP hD hS dX5_couple_48 ⟨_, _, _, by simp [sp_couple, pif_True, pif_False, hf3, hf5, ho7], hR, rfl⟩

set_option maxHeartbeats 4000000 in
set_option maxRecDepth 100000 in
theorem c_X5_stand (l : Launch) (D : va_G) (kk : Nat → ClassId) (ad : Nat → Nat → Nat) (n : Nat) (I : sI) (O : sO) (J : sI) (hj : sj mV ad) (hY : yI n I O) (hR : mR n I O J) (t a : Int32) : fw_Mi l yX5_stand wsX5_stand { frames := 2, cells := 0, slots := 0, locals := 43 } 0 0 D vwCl (xT kk) (mw kk ad J) [.ref (ad 0 0), .int t, .int a] (fun r w1 => ∃ I1 O1 J1, sp_stand n I O t a = (r, I1, O1) ∧ mR n I1 O1 J1 ∧ w1 = mw kk ad J1) := by
  refine fw_ofi (cc := cX5_stand) (maxL := 4) (ret := (some .int)) (by decide) rfl (Nat.le_of_ble_eq_true rfl) ?_
  intro p e s m args below meth c A ls hx hb hml hr hlocks hnm hts hown hK hP hD hA hS hl
  have hown : s.vm.findClass RX5 = some m.cls := hown
  have hl : lv_has ls 4 [(0, .ref (ad 0 0)), (1, .int t), (2, .int a)] := hl
  have in5 : ∀ w ∈ u_ws RX5 TX5 15, w ∈ wsX5_stand := by decide +kernel
  have hn40 := hY.1.1
  refine lv_iload_n hx hb dX5_stand_0 rfl (lv_at hl 1 rfl) ?_
  refine fw_calli (va_runS (As := [.int t]) (rest := []) ⟨hx, hb, hml, hown, hts⟩ (c_X5_isTrack l D kk _ t _) (va_cwS 1 hts gX5_stand_X5_isTrack rfl rfl rfl (by decide +kernel) ⟨Nat.le_of_ble_eq_true rfl, Nat.le_of_ble_eq_true rfl⟩) (fw_preS hK hP) rfl rfl hl.1 rfl (lv_room (Nat.le_of_ble_eq_true rfl)) dX5_stand_1 ⟨Nat.le_of_ble_eq_true rfl, Nat.le_of_ble_eq_true rfl⟩) hD hS hA (fun r w1 H locs hq hP hD hS => ?_)
  obtain ⟨rfl, rfl⟩ := hq
  rcases oc (fnd 6 t) with hf1 | ⟨i2, hf1⟩
  · refine W.eq (g2 := F0 m 4 ls [.int 0]) (by rw [hf1]; rfl) ?_
    refine lv_if_eq (tgt := 20) hx hb dX5_stand_4 (by decide) (fun _ => ?_) (fun c9 => absurd c9 (by decide))
    refine lv_bipush (v := (-101)) hx hb dX5_stand_20 (by decide) ?_
    exact fw_iret hx hb hr hlocks hK hP hD hS dX5_stand_22 ⟨_, _, _, by simp [sp_stand, pif_True, pif_False, hf1], hR, rfl⟩
  · refine W.eq (g2 := F0 m 4 ls [.int 1]) (by rw [hf1]; rfl) ?_
    obtain ⟨hi2, rfl⟩ := fnd_lt hf1
    refine lv_if_eq (tgt := 20) hx hb dX5_stand_4 (by decide) (fun c9 => absurd c9 (by decide)) (fun _ => ?_)
    refine lv_iload_n hx hb dX5_stand_7 rfl (lv_at hl 2 rfl) ?_
    refine lv_iconst (v := (-1)) hx hb dX5_stand_8 (by decide) ?_
    refine lv_icmp_eq (tgt := 23) hx hb dX5_stand_9 (by decide) (fun c_9 => ?_) (fun c_9 => ?_)
    · subst c_9
      refine lv_iload_n hx hb dX5_stand_23 rfl (lv_at hl 2 rfl) ?_
      refine lv_iconst (v := (-1)) hx hb dX5_stand_24 (by decide) ?_
      refine lv_icmp_eq (tgt := 48) hx hb dX5_stand_25 (by decide) (fun _ => ?_) (fun c9 => absurd rfl c9)
      refine lv_aload_n hx hb dX5_stand_48 rfl (lv_at hl 0 rfl) ?_
      refine fw_get (v := .ref (ad 4 0)) (C := RX5) (T := TX5) (N := 15) hx hb hts in5 hown hK hP (m_at0 hj) rfl 4 (by decide) (hts (.fieldLink RX5 19 "WagonSidingsModel" "first" "[I") (by decide +kernel)) (fun _ h9 => h9) rfl dX5_stand_49 ?_
      refine lv_iload_n hx hb dX5_stand_52 rfl (lv_at hl 1 rfl) ?_
      refine fw_iald hx hb hK hP 0 (m_at4 hj) rfl (vp_in_nI (by omega) (by decide)) dX5_stand_53 ?_
      rcases oc (O 1 i2) with ho3 | ⟨j4, ho3⟩
      · refine W.eq (g2 := F0 m 54 ls [.int (-1)]) (by rw [nI_clamp (by omega), hR.2.2.2.2.1 _ (by omega), ho3]; rfl) ?_
        refine lv_istore_n (lv' := [(3, .int (-1)), (0, .ref (ad 0 0)), (1, .int (nI i2)), (2, .int (-1))]) hx hb dX5_stand_54 rfl hl (by decide) rfl (fun ls hl => ?_)
        refine lv_aload_n hx hb dX5_stand_55 rfl (lv_at hl 1 rfl) ?_
        refine fw_get (v := .ref (ad 4 0)) (C := RX5) (T := TX5) (N := 15) hx hb hts in5 hown hK hP (m_at0 hj) rfl 4 (by decide) (hts (.fieldLink RX5 19 "WagonSidingsModel" "first" "[I") (by decide +kernel)) (fun _ h9 => h9) rfl dX5_stand_56 ?_
        refine lv_iload_n hx hb dX5_stand_59 rfl (lv_at hl 2 rfl) ?_
        refine lv_iload_n hx hb dX5_stand_60 rfl (lv_at hl 3 rfl) ?_
        refine fw_iast (w1 := mw kk ad (upI J 4 i2 (-1))) hx hb hK hP hD hS 0 (m_at4 hj) rfl (vp_in_nI (by omega) (by decide)) dX5_stand_61 (by rw [nI_clamp (by omega)]; exact m_st (by omega) hj) (fun H locs hP hD hS => ?_)
        refine lv_iload_n hx hb dX5_stand_62 rfl (lv_at hl 0 rfl) ?_
        exact fw_iret hx hb hr hlocks hK hP hD hS dX5_stand_63 ⟨_, _, _, by simp [sp_stand, pif_True, pif_False, hf1, ho3, num, clr, fnd_neg (n := n) (a := -1) (by decide)], mR_first (o := none) hR, rfl⟩
      · have hj4 := hY.1.2.1 _ _ _ ho3
        refine W.eq (g2 := F0 m 54 ls [.int (nI j4)]) (by rw [nI_clamp (by omega), hR.2.2.2.2.1 _ (by omega), ho3]; rfl) ?_
        refine lv_istore_n (lv' := [(3, .int (nI j4)), (0, .ref (ad 0 0)), (1, .int (nI i2)), (2, .int (-1))]) hx hb dX5_stand_54 rfl hl (by decide) rfl (fun ls hl => ?_)
        refine lv_aload_n hx hb dX5_stand_55 rfl (lv_at hl 1 rfl) ?_
        refine fw_get (v := .ref (ad 4 0)) (C := RX5) (T := TX5) (N := 15) hx hb hts in5 hown hK hP (m_at0 hj) rfl 4 (by decide) (hts (.fieldLink RX5 19 "WagonSidingsModel" "first" "[I") (by decide +kernel)) (fun _ h9 => h9) rfl dX5_stand_56 ?_
        refine lv_iload_n hx hb dX5_stand_59 rfl (lv_at hl 2 rfl) ?_
        refine lv_iload_n hx hb dX5_stand_60 rfl (lv_at hl 3 rfl) ?_
        refine fw_iast (w1 := mw kk ad (upI J 4 i2 (-1))) hx hb hK hP hD hS 0 (m_at4 hj) rfl (vp_in_nI (by omega) (by decide)) dX5_stand_61 (by rw [nI_clamp (by omega)]; exact m_st (by omega) hj) (fun H locs hP hD hS => ?_)
        refine lv_iload_n hx hb dX5_stand_62 rfl (lv_at hl 0 rfl) ?_
        exact fw_iret hx hb hr hlocks hK hP hD hS dX5_stand_63 ⟨_, _, _, by simp [sp_stand, pif_True, pif_False, hf1, ho3, num, clr, fnd_neg (n := n) (a := -1) (by decide)], mR_f3 (j := j4) (v := -1) (mR_first (o := none) hR), rfl⟩
    · refine lv_aload_n hx hb dX5_stand_12 rfl (lv_at hl 0 rfl) ?_
      refine lv_iload_n hx hb dX5_stand_13 rfl (lv_at hl 2 rfl) ?_
      refine fw_calli (va_runV (As := [.int a]) (rest := []) ⟨hx, hb, hml, hown, hts⟩ (c_X5_isWagon l D kk ad n I O J hj hY hR a _) (cwV 1 hts gX5_stand_X5_isWagon rfl rfl rfl (by decide +kernel) ⟨Nat.le_of_ble_eq_true rfl, Nat.le_of_ble_eq_true rfl⟩) (fw_preV hK hP (ci := 5) rfl (m_at0 hj)) rfl rfl hl.1 rfl (lv_room (Nat.le_of_ble_eq_true rfl)) dX5_stand_14 ⟨Nat.le_of_ble_eq_true rfl, Nat.le_of_ble_eq_true rfl⟩) hD hS hA (fun r w1 H locs hq hP hD hS => ?_)
      obtain ⟨rfl, rfl⟩ := hq
      rcases oc (fnd n a) with hf5 | ⟨i6, hf5⟩
      · refine W.eq (g2 := F0 m 17 ls [.int 0]) (by rw [hf5]; rfl) ?_
        refine lv_if_ne (tgt := 23) hx hb dX5_stand_17 (by decide) (fun c9 => absurd c9 (by decide)) (fun _ => ?_)
        refine lv_bipush (v := (-101)) hx hb dX5_stand_20 (by decide) ?_
        exact fw_iret hx hb hr hlocks hK hP hD hS dX5_stand_22 ⟨_, _, _, by simp [sp_stand, pif_True, pif_False, hf1, c_9, hf5], hR, rfl⟩
      · refine W.eq (g2 := F0 m 17 ls [.int 1]) (by rw [hf5]; rfl) ?_
        obtain ⟨hi6, rfl⟩ := fnd_lt hf5
        refine lv_if_ne (tgt := 23) hx hb dX5_stand_17 (by decide) (fun _ => ?_) (fun c9 => absurd c9 (by decide))
        refine lv_iload_n hx hb dX5_stand_23 rfl (lv_at hl 2 rfl) ?_
        refine lv_iconst (v := (-1)) hx hb dX5_stand_24 (by decide) ?_
        refine lv_icmp_eq (tgt := 48) hx hb dX5_stand_25 (by decide) (fun c9 => absurd c9 (nI_m1 (by omega))) (fun _ => ?_)
        refine lv_aload_n hx hb dX5_stand_28 rfl (lv_at hl 0 rfl) ?_
        refine lv_iload_n hx hb dX5_stand_29 rfl (lv_at hl 2 rfl) ?_
        refine fw_calli (va_runV (As := [.int (nI i6)]) (rest := []) ⟨hx, hb, hml, hown, hts⟩ (c_X5_hasAhead l D kk ad n I O J hj hY hR i6 (by omega) _) (cwV 1 hts gX5_stand_X5_hasAhead rfl rfl rfl (by decide +kernel) ⟨Nat.le_of_ble_eq_true rfl, Nat.le_of_ble_eq_true rfl⟩) (fw_preV hK hP (ci := 5) rfl (m_at0 hj)) rfl rfl hl.1 rfl (lv_room (Nat.le_of_ble_eq_true rfl)) dX5_stand_30 ⟨Nat.le_of_ble_eq_true rfl, Nat.le_of_ble_eq_true rfl⟩) hD hS hA (fun r w1 H locs hq hP hD hS => ?_)
        obtain ⟨rfl, rfl⟩ := hq
        by_cases hb7 : ¬ I 2 i6 = 0
        · rw [pif_t hb7]
          refine lv_if_ne (tgt := 45) hx hb dX5_stand_33 (by decide) (fun _ => ?_) (fun c9 => absurd c9 (by decide))
          refine lv_bipush (v := (-103)) hx hb dX5_stand_45 (by decide) ?_
          exact fw_iret hx hb hr hlocks hK hP hD hS dX5_stand_47 ⟨_, _, _, by simp [sp_stand, pif_True, pif_False, hf1, c_9, hf5, hb7], hR, rfl⟩
        · rw [pif_f hb7]
          refine lv_if_ne (tgt := 45) hx hb dX5_stand_33 (by decide) (fun c9 => absurd c9 (by decide)) (fun _ => ?_)
          refine lv_aload_n hx hb dX5_stand_36 rfl (lv_at hl 0 rfl) ?_
          refine lv_iload_n hx hb dX5_stand_37 rfl (lv_at hl 2 rfl) ?_
          refine fw_calli (va_runV (As := [.int (nI i6)]) (rest := []) ⟨hx, hb, hml, hown, hts⟩ (c_X5_trackOf l D kk ad n I O J hj hY hR i6 (by omega) _) (cwV 1 hts gX5_stand_X5_trackOf rfl rfl rfl (by decide +kernel) ⟨Nat.le_of_ble_eq_true rfl, Nat.le_of_ble_eq_true rfl⟩) (fw_preV hK hP (ci := 5) rfl (m_at0 hj)) rfl rfl hl.1 rfl (lv_room (Nat.le_of_ble_eq_true rfl)) dX5_stand_38 ⟨Nat.le_of_ble_eq_true rfl, Nat.le_of_ble_eq_true rfl⟩) hD hS hA (fun r w1 H locs hq hP hD hS => ?_)
          obtain ⟨rfl, rfl⟩ := hq
          refine lv_iconst (v := (-1)) hx hb dX5_stand_41 (by decide) ?_
          refine lv_icmp_eq (tgt := 48) hx hb dX5_stand_42 (by decide) (fun c_42 => ?_) (fun c_42 => ?_)
          · refine lv_aload_n hx hb dX5_stand_48 rfl (lv_at hl 0 rfl) ?_
            refine fw_get (v := .ref (ad 4 0)) (C := RX5) (T := TX5) (N := 15) hx hb hts in5 hown hK hP (m_at0 hj) rfl 4 (by decide) (hts (.fieldLink RX5 19 "WagonSidingsModel" "first" "[I") (by decide +kernel)) (fun _ h9 => h9) rfl dX5_stand_49 ?_
            refine lv_iload_n hx hb dX5_stand_52 rfl (lv_at hl 1 rfl) ?_
            refine fw_iald hx hb hK hP 0 (m_at4 hj) rfl (vp_in_nI (by omega) (by decide)) dX5_stand_53 ?_
            rcases oc (O 1 i2) with ho8 | ⟨j9, ho8⟩
            · refine W.eq (g2 := F0 m 54 ls [.int (-1)]) (by rw [nI_clamp (by omega), hR.2.2.2.2.1 _ (by omega), ho8]; rfl) ?_
              refine lv_istore_n (lv' := [(3, .int (-1)), (0, .ref (ad 0 0)), (1, .int (nI i2)), (2, .int (nI i6))]) hx hb dX5_stand_54 rfl hl (by decide) rfl (fun ls hl => ?_)
              refine lv_aload_n hx hb dX5_stand_55 rfl (lv_at hl 1 rfl) ?_
              refine fw_get (v := .ref (ad 4 0)) (C := RX5) (T := TX5) (N := 15) hx hb hts in5 hown hK hP (m_at0 hj) rfl 4 (by decide) (hts (.fieldLink RX5 19 "WagonSidingsModel" "first" "[I") (by decide +kernel)) (fun _ h9 => h9) rfl dX5_stand_56 ?_
              refine lv_iload_n hx hb dX5_stand_59 rfl (lv_at hl 2 rfl) ?_
              refine lv_iload_n hx hb dX5_stand_60 rfl (lv_at hl 3 rfl) ?_
              refine fw_iast (w1 := mw kk ad (upI J 4 i2 (nI i6))) hx hb hK hP hD hS 0 (m_at4 hj) rfl (vp_in_nI (by omega) (by decide)) dX5_stand_61 (by rw [nI_clamp (by omega)]; exact m_st (by omega) hj) (fun H locs hP hD hS => ?_)
              refine lv_iload_n hx hb dX5_stand_62 rfl (lv_at hl 0 rfl) ?_
              exact fw_iret hx hb hr hlocks hK hP hD hS dX5_stand_63 ⟨_, _, _, by simp [sp_stand, pif_True, pif_False, hf1, c_9, hf5, hb7, eq_true c_42, ho8, num, clr], mR_f3 (j := i6) (v := nI i2) (mR_first (o := some i6) hR), rfl⟩
            · have hj9 := hY.1.2.1 _ _ _ ho8
              refine W.eq (g2 := F0 m 54 ls [.int (nI j9)]) (by rw [nI_clamp (by omega), hR.2.2.2.2.1 _ (by omega), ho8]; rfl) ?_
              refine lv_istore_n (lv' := [(3, .int (nI j9)), (0, .ref (ad 0 0)), (1, .int (nI i2)), (2, .int (nI i6))]) hx hb dX5_stand_54 rfl hl (by decide) rfl (fun ls hl => ?_)
              refine lv_aload_n hx hb dX5_stand_55 rfl (lv_at hl 1 rfl) ?_
              refine fw_get (v := .ref (ad 4 0)) (C := RX5) (T := TX5) (N := 15) hx hb hts in5 hown hK hP (m_at0 hj) rfl 4 (by decide) (hts (.fieldLink RX5 19 "WagonSidingsModel" "first" "[I") (by decide +kernel)) (fun _ h9 => h9) rfl dX5_stand_56 ?_
              refine lv_iload_n hx hb dX5_stand_59 rfl (lv_at hl 2 rfl) ?_
              refine lv_iload_n hx hb dX5_stand_60 rfl (lv_at hl 3 rfl) ?_
              refine fw_iast (w1 := mw kk ad (upI J 4 i2 (nI i6))) hx hb hK hP hD hS 0 (m_at4 hj) rfl (vp_in_nI (by omega) (by decide)) dX5_stand_61 (by rw [nI_clamp (by omega)]; exact m_st (by omega) hj) (fun H locs hP hD hS => ?_)
              refine lv_iload_n hx hb dX5_stand_62 rfl (lv_at hl 0 rfl) ?_
              exact fw_iret hx hb hr hlocks hK hP hD hS dX5_stand_63 ⟨_, _, _, by simp [sp_stand, pif_True, pif_False, hf1, c_9, hf5, hb7, eq_true c_42, ho8, num, clr], mR_f3 (j := i6) (v := nI i2) (mR_f3 (j := j9) (v := -1) (mR_first (o := some i6) hR)), rfl⟩
          · refine lv_bipush (v := (-103)) hx hb dX5_stand_45 (by decide) ?_
            exact fw_iret hx hb hr hlocks hK hP hD hS dX5_stand_47 ⟨_, _, _, by simp [sp_stand, pif_True, pif_False, hf1, c_9, hf5, hb7, c_42], hR, rfl⟩

set_option maxHeartbeats 4000000 in
set_option maxRecDepth 100000 in
theorem c_X5_wagonAt (l : Launch) (D : va_G) (kk : Nat → ClassId) (ad : Nat → Nat → Nat) (n : Nat) (I : sI) (O : sO) (J : sI) (hj : sj mV ad) (hY : yI n I O) (hR : mR n I O J) (t a : Int32) : fw_Mi l yX5_wagonAt wsX5_wagonAt { frames := 3, cells := 0, slots := 0, locals := 63 } 0 0 D vwCl (xT kk) (mw kk ad J) [.ref (ad 0 0), .int t, .int a] (fun r w1 => ∃ I1 O1 J1, sp_wagonAt I O t a = (r, I1, O1) ∧ mR n I1 O1 J1 ∧ w1 = mw kk ad J1) := by
  refine fw_ofi (cc := cX5_wagonAt) (maxL := 5) (ret := (some .int)) (by decide) rfl (Nat.le_of_ble_eq_true rfl) ?_
  intro p e s m args below meth c A ls hx hb hml hr hlocks hnm hts hown hK hP hD hA hS hl
  have hown : s.vm.findClass RX5 = some m.cls := hown
  have hl : lv_has ls 5 [(0, .ref (ad 0 0)), (1, .int t), (2, .int a)] := hl
  have hn40 := hY.1.1
  refine lv_iload_n hx hb dX5_wagonAt_0 rfl (lv_at hl 1 rfl) ?_
  refine lv_iload_n hx hb dX5_wagonAt_1 rfl (lv_at hl 2 rfl) ?_
  refine fw_calli (va_runS (As := [.int t, .int a]) (rest := []) ⟨hx, hb, hml, hown, hts⟩ (c_X5_refused l D kk _ t a _) (va_cwS 2 hts gX5_wagonAt_X5_refused rfl rfl rfl (by decide +kernel) ⟨Nat.le_of_ble_eq_true rfl, Nat.le_of_ble_eq_true rfl⟩) (fw_preS hK hP) rfl rfl hl.1 rfl (lv_room (Nat.le_of_ble_eq_true rfl)) dX5_wagonAt_2 ⟨Nat.le_of_ble_eq_true rfl, Nat.le_of_ble_eq_true rfl⟩) hD hS hA (fun r w1 H locs hq hP hD hS => ?_)
  obtain ⟨rfl, rfl⟩ := hq
  rcases oc (fnd 6 t) with hf1 | ⟨i2, hf1⟩
  · refine W.eq (g2 := F0 m 5 ls [.int (-101)]) (by rw [rfs, hf1]) ?_
    refine lv_istore_n (lv' := [(3, .int (-101)), (0, .ref (ad 0 0)), (1, .int t), (2, .int a)]) hx hb dX5_wagonAt_5 rfl hl (by decide) rfl (fun ls hl => ?_)
    refine lv_iload_n hx hb dX5_wagonAt_6 rfl (lv_at hl 0 rfl) ?_
    refine lv_if_eq (tgt := 12) hx hb dX5_wagonAt_7 (by decide) (fun c9 => absurd c9 (by decide)) (fun _ => ?_)
    refine lv_iload_n hx hb dX5_wagonAt_10 rfl (lv_at hl 0 rfl) ?_
    exact fw_iret hx hb hr hlocks hK hP hD hS dX5_wagonAt_11 ⟨_, _, _, by rw [sp_wagonAt]; exact sp_at_u hf1 _, hR, rfl⟩
  · by_cases hb3 : a < 0 ∨ 40 < a
    · refine W.eq (g2 := F0 m 5 ls [.int (-102)]) (by rw [rfs, hf1]; exact congrArg (fun z => F0 m 5 ls [.int z]) (pif_t hb3)) ?_
      refine lv_istore_n (lv' := [(3, .int (-102)), (0, .ref (ad 0 0)), (1, .int t), (2, .int a)]) hx hb dX5_wagonAt_5 rfl hl (by decide) rfl (fun ls hl => ?_)
      refine lv_iload_n hx hb dX5_wagonAt_6 rfl (lv_at hl 0 rfl) ?_
      refine lv_if_eq (tgt := 12) hx hb dX5_wagonAt_7 (by decide) (fun c9 => absurd c9 (by decide)) (fun _ => ?_)
      refine lv_iload_n hx hb dX5_wagonAt_10 rfl (lv_at hl 0 rfl) ?_
      exact fw_iret hx hb hr hlocks hK hP hD hS dX5_wagonAt_11 ⟨_, _, _, by rw [sp_wagonAt]; exact sp_at_o hf1 hb3 _, hR, rfl⟩
    · refine W.eq (g2 := F0 m 5 ls [.int 0]) (by rw [rfs, hf1]; exact congrArg (fun z => F0 m 5 ls [.int z]) (pif_f hb3)) ?_
      obtain ⟨hi2, rfl⟩ := fnd_lt hf1
      obtain ⟨x4, hx4, rfl⟩ := nI_40 hb3
      refine lv_istore_n (lv' := [(3, .int 0), (0, .ref (ad 0 0)), (1, .int (nI i2)), (2, .int (nI x4))]) hx hb dX5_wagonAt_5 rfl hl (by decide) rfl (fun ls hl => ?_)
      refine lv_iload_n hx hb dX5_wagonAt_6 rfl (lv_at hl 0 rfl) ?_
      refine lv_if_eq (tgt := 12) hx hb dX5_wagonAt_7 (by decide) (fun _ => ?_) (fun c9 => absurd c9 (by decide))
      refine lv_aload_n hx hb dX5_wagonAt_12 rfl (lv_at hl 1 rfl) ?_
      refine lv_iload_n hx hb dX5_wagonAt_13 rfl (lv_at hl 2 rfl) ?_
      refine lv_iload_n hx hb dX5_wagonAt_14 rfl (lv_at hl 3 rfl) ?_
      refine fw_calli (va_runV (As := [.int (nI i2), .int (nI x4)]) (rest := []) ⟨hx, hb, hml, hown, hts⟩ (c_X5_nth l D kk ad n I O J hj hY hR i2 x4 (by omega) (by omega) _) (cwV 2 hts gX5_wagonAt_X5_nth rfl rfl rfl (by decide +kernel) ⟨Nat.le_of_ble_eq_true rfl, Nat.le_of_ble_eq_true rfl⟩) (fw_preV hK hP (ci := 5) rfl (m_at0 hj)) rfl rfl hl.1 rfl (lv_room (Nat.le_of_ble_eq_true rfl)) dX5_wagonAt_15 ⟨Nat.le_of_ble_eq_true rfl, Nat.le_of_ble_eq_true rfl⟩) hD hS hA (fun r w1 H locs hq hP hD hS => ?_)
      obtain ⟨rfl, rfl⟩ := hq
      rcases oc (wk (O 0) x4 (O 1 i2)) with hw5 | ⟨j6, hw5⟩
      · rw [nthJ_none hw5] at hP hD
        refine W.eq (g2 := F0 m 18 ls [.int (-1)]) (by rw [hw5]; rfl) ?_
        refine lv_istore (lv' := [(4, .int (-1)), (3, .int 0), (0, .ref (ad 0 0)), (1, .int (nI i2)), (2, .int (nI x4))]) hx hb dX5_wagonAt_18 hl (by decide) rfl (fun ls hl => ?_)
        refine lv_iload hx hb dX5_wagonAt_20 (lv_at hl 0 rfl) ?_
        refine lv_iconst (v := (-1)) hx hb dX5_wagonAt_22 (by decide) ?_
        refine lv_icmp_ne (tgt := 32) hx hb dX5_wagonAt_23 (by decide) (fun c9 => absurd rfl c9) (fun _ => ?_)
        refine lv_sipush (v := (-201)) hx hb dX5_wagonAt_26 (by decide) ?_
        refine lv_goto (tgt := 39) hx hb dX5_wagonAt_29 (by decide) ?_
        exact fw_iret hx hb hr hlocks hK hP hD hS dX5_wagonAt_39 ⟨_, _, _, by rw [sp_wagonAt]; exact sp_at_none hf1 hb3 (by omega) hw5 _, mR_tell hR, rfl⟩
      · rw [nthJ_some hw5] at hP hD
        have hj6 := xI_wk hY.1 hw5
        refine W.eq (g2 := F0 m 18 ls [.int (nI j6)]) (by rw [hw5]; rfl) ?_
        refine lv_istore (lv' := [(4, .int (nI j6)), (3, .int 0), (0, .ref (ad 0 0)), (1, .int (nI i2)), (2, .int (nI x4))]) hx hb dX5_wagonAt_18 hl (by decide) rfl (fun ls hl => ?_)
        refine lv_iload hx hb dX5_wagonAt_20 (lv_at hl 0 rfl) ?_
        refine lv_iconst (v := (-1)) hx hb dX5_wagonAt_22 (by decide) ?_
        refine lv_icmp_ne (tgt := 32) hx hb dX5_wagonAt_23 (by decide) (fun _ => ?_) (fun c9 => absurd c9 (nI_m1 (by omega)))
        refine lv_aload_n hx hb dX5_wagonAt_32 rfl (lv_at hl 2 rfl) ?_
        refine lv_iload hx hb dX5_wagonAt_33 (lv_at hl 0 rfl) ?_
        refine lv_iload_n hx hb dX5_wagonAt_35 rfl (lv_at hl 4 rfl) ?_
        refine fw_calli (va_runV (As := [.int (nI j6), .int (nI x4)]) (rest := []) ⟨hx, hb, hml, hown, hts⟩ (c_X5_well l D kk ad J hj (nI j6) (nI x4) _) (cwV 2 hts gX5_wagonAt_X5_well rfl rfl rfl (by decide +kernel) ⟨Nat.le_of_ble_eq_true rfl, Nat.le_of_ble_eq_true rfl⟩) (fw_preV hK hP (ci := 5) rfl (m_at0 hj)) rfl rfl hl.1 rfl (lv_room (Nat.le_of_ble_eq_true rfl)) dX5_wagonAt_36 ⟨Nat.le_of_ble_eq_true rfl, Nat.le_of_ble_eq_true rfl⟩) hD hS hA (fun r w1 H locs hq hP hD hS => ?_)
        obtain ⟨rfl, rfl⟩ := hq
        exact fw_iret hx hb hr hlocks hK hP hD hS dX5_wagonAt_39 ⟨_, _, _, by rw [sp_wagonAt]; exact sp_at_x hf1 hb3 (by omega) hw5 _, mR_tell hR, rfl⟩

set_option maxHeartbeats 4000000 in
set_option maxRecDepth 100000 in
theorem c_X5_load (l : Launch) (D : va_G) (kk : Nat → ClassId) (ad : Nat → Nat → Nat) (n : Nat) (I : sI) (O : sO) (J : sI) (hj : sj mV ad) (hY : yI n I O) (hR : mR n I O J) (t a v : Int32) : fw_Mi l yX5_load wsX5_load { frames := 3, cells := 0, slots := 0, locals := 63 } 0 0 D vwCl (xT kk) (mw kk ad J) [.ref (ad 0 0), .int t, .int a, .int v] (fun r w1 => ∃ I1 O1 J1, sp_load I O t a v = (r, I1, O1) ∧ mR n I1 O1 J1 ∧ w1 = mw kk ad J1) := by
  refine fw_ofi (cc := cX5_load) (maxL := 6) (ret := (some .int)) (by decide) rfl (Nat.le_of_ble_eq_true rfl) ?_
  intro p e s m args below meth c A ls hx hb hml hr hlocks hnm hts hown hK hP hD hA hS hl
  have hown : s.vm.findClass RX5 = some m.cls := hown
  have hl : lv_has ls 6 [(0, .ref (ad 0 0)), (1, .int t), (2, .int a), (3, .int v)] := hl
  have in5 : ∀ w ∈ u_ws RX5 TX5 15, w ∈ wsX5_load := by decide +kernel
  have hn40 := hY.1.1
  refine lv_iload_n hx hb dX5_load_0 rfl (lv_at hl 1 rfl) ?_
  refine lv_iload_n hx hb dX5_load_1 rfl (lv_at hl 2 rfl) ?_
  refine fw_calli (va_runS (As := [.int t, .int a]) (rest := []) ⟨hx, hb, hml, hown, hts⟩ (c_X5_refused l D kk _ t a _) (va_cwS 2 hts gX5_load_X5_refused rfl rfl rfl (by decide +kernel) ⟨Nat.le_of_ble_eq_true rfl, Nat.le_of_ble_eq_true rfl⟩) (fw_preS hK hP) rfl rfl hl.1 rfl (lv_room (Nat.le_of_ble_eq_true rfl)) dX5_load_2 ⟨Nat.le_of_ble_eq_true rfl, Nat.le_of_ble_eq_true rfl⟩) hD hS hA (fun r w1 H locs hq hP hD hS => ?_)
  obtain ⟨rfl, rfl⟩ := hq
  rcases oc (fnd 6 t) with hf1 | ⟨i2, hf1⟩
  · refine W.eq (g2 := F0 m 5 ls [.int (-101)]) (by rw [rfs, hf1]) ?_
    refine lv_istore (lv' := [(4, .int (-101)), (0, .ref (ad 0 0)), (1, .int t), (2, .int a), (3, .int v)]) hx hb dX5_load_5 hl (by decide) rfl (fun ls hl => ?_)
    refine lv_iload hx hb dX5_load_7 (lv_at hl 0 rfl) ?_
    refine lv_if_eq (tgt := 15) hx hb dX5_load_9 (by decide) (fun c9 => absurd c9 (by decide)) (fun _ => ?_)
    refine lv_iload hx hb dX5_load_12 (lv_at hl 0 rfl) ?_
    exact fw_iret hx hb hr hlocks hK hP hD hS dX5_load_14 ⟨_, _, _, by rw [sp_load]; exact sp_at_u hf1 _, hR, rfl⟩
  · by_cases hb3 : a < 0 ∨ 40 < a
    · refine W.eq (g2 := F0 m 5 ls [.int (-102)]) (by rw [rfs, hf1]; exact congrArg (fun z => F0 m 5 ls [.int z]) (pif_t hb3)) ?_
      refine lv_istore (lv' := [(4, .int (-102)), (0, .ref (ad 0 0)), (1, .int t), (2, .int a), (3, .int v)]) hx hb dX5_load_5 hl (by decide) rfl (fun ls hl => ?_)
      refine lv_iload hx hb dX5_load_7 (lv_at hl 0 rfl) ?_
      refine lv_if_eq (tgt := 15) hx hb dX5_load_9 (by decide) (fun c9 => absurd c9 (by decide)) (fun _ => ?_)
      refine lv_iload hx hb dX5_load_12 (lv_at hl 0 rfl) ?_
      exact fw_iret hx hb hr hlocks hK hP hD hS dX5_load_14 ⟨_, _, _, by rw [sp_load]; exact sp_at_o hf1 hb3 _, hR, rfl⟩
    · refine W.eq (g2 := F0 m 5 ls [.int 0]) (by rw [rfs, hf1]; exact congrArg (fun z => F0 m 5 ls [.int z]) (pif_f hb3)) ?_
      obtain ⟨hi2, rfl⟩ := fnd_lt hf1
      obtain ⟨x4, hx4, rfl⟩ := nI_40 hb3
      refine lv_istore (lv' := [(4, .int 0), (0, .ref (ad 0 0)), (1, .int (nI i2)), (2, .int (nI x4)), (3, .int v)]) hx hb dX5_load_5 hl (by decide) rfl (fun ls hl => ?_)
      refine lv_iload hx hb dX5_load_7 (lv_at hl 0 rfl) ?_
      refine lv_if_eq (tgt := 15) hx hb dX5_load_9 (by decide) (fun _ => ?_) (fun c9 => absurd c9 (by decide))
      refine lv_aload_n hx hb dX5_load_15 rfl (lv_at hl 1 rfl) ?_
      refine lv_iload_n hx hb dX5_load_16 rfl (lv_at hl 2 rfl) ?_
      refine lv_iload_n hx hb dX5_load_17 rfl (lv_at hl 3 rfl) ?_
      refine fw_calli (va_runV (As := [.int (nI i2), .int (nI x4)]) (rest := []) ⟨hx, hb, hml, hown, hts⟩ (c_X5_nth l D kk ad n I O J hj hY hR i2 x4 (by omega) (by omega) _) (cwV 2 hts gX5_load_X5_nth rfl rfl rfl (by decide +kernel) ⟨Nat.le_of_ble_eq_true rfl, Nat.le_of_ble_eq_true rfl⟩) (fw_preV hK hP (ci := 5) rfl (m_at0 hj)) rfl rfl hl.1 rfl (lv_room (Nat.le_of_ble_eq_true rfl)) dX5_load_18 ⟨Nat.le_of_ble_eq_true rfl, Nat.le_of_ble_eq_true rfl⟩) hD hS hA (fun r w1 H locs hq hP hD hS => ?_)
      obtain ⟨rfl, rfl⟩ := hq
      rcases oc (wk (O 0) x4 (O 1 i2)) with hw5 | ⟨j6, hw5⟩
      · rw [nthJ_none hw5] at hP hD
        refine W.eq (g2 := F0 m 21 ls [.int (-1)]) (by rw [hw5]; rfl) ?_
        refine lv_istore (lv' := [(5, .int (-1)), (4, .int 0), (0, .ref (ad 0 0)), (1, .int (nI i2)), (2, .int (nI x4)), (3, .int v)]) hx hb dX5_load_21 hl (by decide) rfl (fun ls hl => ?_)
        refine lv_iload hx hb dX5_load_23 (lv_at hl 0 rfl) ?_
        refine lv_iconst (v := (-1)) hx hb dX5_load_25 (by decide) ?_
        refine lv_icmp_ne (tgt := 33) hx hb dX5_load_26 (by decide) (fun c9 => absurd rfl c9) (fun _ => ?_)
        refine lv_sipush (v := (-201)) hx hb dX5_load_29 (by decide) ?_
        exact fw_iret hx hb hr hlocks hK hP hD hS dX5_load_32 ⟨_, _, _, by rw [sp_load]; exact sp_at_none hf1 hb3 (by omega) hw5 _, mR_tell hR, rfl⟩
      · rw [nthJ_some hw5] at hP hD
        have hj6 := xI_wk hY.1 hw5
        refine W.eq (g2 := F0 m 21 ls [.int (nI j6)]) (by rw [hw5]; rfl) ?_
        refine lv_istore (lv' := [(5, .int (nI j6)), (4, .int 0), (0, .ref (ad 0 0)), (1, .int (nI i2)), (2, .int (nI x4)), (3, .int v)]) hx hb dX5_load_21 hl (by decide) rfl (fun ls hl => ?_)
        refine lv_iload hx hb dX5_load_23 (lv_at hl 0 rfl) ?_
        refine lv_iconst (v := (-1)) hx hb dX5_load_25 (by decide) ?_
        refine lv_icmp_ne (tgt := 33) hx hb dX5_load_26 (by decide) (fun _ => ?_) (fun c9 => absurd c9 (nI_m1 (by omega)))
        refine lv_aload_n hx hb dX5_load_33 rfl (lv_at hl 2 rfl) ?_
        refine fw_get (v := .ref (ad 2 0)) (C := RX5) (T := TX5) (N := 15) hx hb hts in5 hown hK hP (m_at0 hj) rfl 2 (by decide) (hts (.fieldLink RX5 13 "WagonSidingsModel" "load" "[I") (by decide +kernel)) (fun _ h9 => h9) rfl dX5_load_34 ?_
        refine lv_iload hx hb dX5_load_37 (lv_at hl 0 rfl) ?_
        refine lv_iload_n hx hb dX5_load_39 rfl (lv_at hl 5 rfl) ?_
        refine fw_iast (w1 := mw kk ad (upI J 2 j6 v)) hx hb hK hP hD hS 0 (m_at2 hj) rfl (vp_in_nI (by omega) (by decide)) dX5_load_40 (by rw [nI_clamp (by omega)]; exact m_st (by omega) hj) (fun H locs hP hD hS => ?_)
        refine lv_aload_n hx hb dX5_load_41 rfl (lv_at hl 2 rfl) ?_
        refine lv_iconst (v := 1) hx hb dX5_load_42 (by decide) ?_
        refine lv_iload_n hx hb dX5_load_43 rfl (lv_at hl 4 rfl) ?_
        refine fw_calli (va_runV (As := [.int 1, .int (nI x4)]) (rest := []) ⟨hx, hb, hml, hown, hts⟩ (c_X5_well l D kk ad (upI J 2 j6 v) hj 1 (nI x4) _) (cwV 2 hts gX5_load_X5_well rfl rfl rfl (by decide +kernel) ⟨Nat.le_of_ble_eq_true rfl, Nat.le_of_ble_eq_true rfl⟩) (fw_preV hK hP (ci := 5) rfl (m_at0 hj)) rfl rfl hl.1 rfl (lv_room (Nat.le_of_ble_eq_true rfl)) dX5_load_44 ⟨Nat.le_of_ble_eq_true rfl, Nat.le_of_ble_eq_true rfl⟩) hD hS hA (fun r w1 H locs hq hP hD hS => ?_)
        obtain ⟨rfl, rfl⟩ := hq
        exact fw_iret hx hb hr hlocks hK hP hD hS dX5_load_47 ⟨_, _, _, by rw [sp_load, sp_at_x hf1 hb3 (by omega) hw5, tl_up (by decide)], mR_tell (mR_load hR), rfl⟩

set_option maxHeartbeats 4000000 in
set_option maxRecDepth 100000 in
theorem c_X5_cut (l : Launch) (D : va_G) (kk : Nat → ClassId) (ad : Nat → Nat → Nat) (n : Nat) (I : sI) (O : sO) (J : sI) (hj : sj mV ad) (hY : yI n I O) (hR : mR n I O J) (t a : Int32) : fw_Mi l yX5_cut wsX5_cut { frames := 3, cells := 0, slots := 0, locals := 63 } 0 0 D vwCl (xT kk) (mw kk ad J) [.ref (ad 0 0), .int t, .int a] (fun r w1 => ∃ I1 O1 J1, sp_cut I O t a = (r, I1, O1) ∧ mR n I1 O1 J1 ∧ w1 = mw kk ad J1) := by
  refine fw_ofi (cc := cX5_cut) (maxL := 5) (ret := (some .int)) (by decide) rfl (Nat.le_of_ble_eq_true rfl) ?_
  intro p e s m args below meth c A ls hx hb hml hr hlocks hnm hts hown hK hP hD hA hS hl
  have hown : s.vm.findClass RX5 = some m.cls := hown
  have hl : lv_has ls 5 [(0, .ref (ad 0 0)), (1, .int t), (2, .int a)] := hl
  have in5 : ∀ w ∈ u_ws RX5 TX5 15, w ∈ wsX5_cut := by decide +kernel
  have hn40 := hY.1.1
  refine lv_iload_n hx hb dX5_cut_0 rfl (lv_at hl 1 rfl) ?_
  refine lv_iload_n hx hb dX5_cut_1 rfl (lv_at hl 2 rfl) ?_
  refine fw_calli (va_runS (As := [.int t, .int a]) (rest := []) ⟨hx, hb, hml, hown, hts⟩ (c_X5_refused l D kk _ t a _) (va_cwS 2 hts gX5_cut_X5_refused rfl rfl rfl (by decide +kernel) ⟨Nat.le_of_ble_eq_true rfl, Nat.le_of_ble_eq_true rfl⟩) (fw_preS hK hP) rfl rfl hl.1 rfl (lv_room (Nat.le_of_ble_eq_true rfl)) dX5_cut_2 ⟨Nat.le_of_ble_eq_true rfl, Nat.le_of_ble_eq_true rfl⟩) hD hS hA (fun r w1 H locs hq hP hD hS => ?_)
  obtain ⟨rfl, rfl⟩ := hq
  rcases oc (fnd 6 t) with hf1 | ⟨i2, hf1⟩
  · refine W.eq (g2 := F0 m 5 ls [.int (-101)]) (by rw [rfs, hf1]) ?_
    refine lv_istore_n (lv' := [(3, .int (-101)), (0, .ref (ad 0 0)), (1, .int t), (2, .int a)]) hx hb dX5_cut_5 rfl hl (by decide) rfl (fun ls hl => ?_)
    refine lv_iload_n hx hb dX5_cut_6 rfl (lv_at hl 0 rfl) ?_
    refine lv_if_eq (tgt := 12) hx hb dX5_cut_7 (by decide) (fun c9 => absurd c9 (by decide)) (fun _ => ?_)
    refine lv_iload_n hx hb dX5_cut_10 rfl (lv_at hl 0 rfl) ?_
    exact fw_iret hx hb hr hlocks hK hP hD hS dX5_cut_11 ⟨_, _, _, by rw [sp_cut]; exact sp_at_u hf1 _, hR, rfl⟩
  · by_cases hb3 : a < 0 ∨ 40 < a
    · refine W.eq (g2 := F0 m 5 ls [.int (-102)]) (by rw [rfs, hf1]; exact congrArg (fun z => F0 m 5 ls [.int z]) (pif_t hb3)) ?_
      refine lv_istore_n (lv' := [(3, .int (-102)), (0, .ref (ad 0 0)), (1, .int t), (2, .int a)]) hx hb dX5_cut_5 rfl hl (by decide) rfl (fun ls hl => ?_)
      refine lv_iload_n hx hb dX5_cut_6 rfl (lv_at hl 0 rfl) ?_
      refine lv_if_eq (tgt := 12) hx hb dX5_cut_7 (by decide) (fun c9 => absurd c9 (by decide)) (fun _ => ?_)
      refine lv_iload_n hx hb dX5_cut_10 rfl (lv_at hl 0 rfl) ?_
      exact fw_iret hx hb hr hlocks hK hP hD hS dX5_cut_11 ⟨_, _, _, by rw [sp_cut]; exact sp_at_o hf1 hb3 _, hR, rfl⟩
    · refine W.eq (g2 := F0 m 5 ls [.int 0]) (by rw [rfs, hf1]; exact congrArg (fun z => F0 m 5 ls [.int z]) (pif_f hb3)) ?_
      obtain ⟨hi2, rfl⟩ := fnd_lt hf1
      obtain ⟨x4, hx4, rfl⟩ := nI_40 hb3
      refine lv_istore_n (lv' := [(3, .int 0), (0, .ref (ad 0 0)), (1, .int (nI i2)), (2, .int (nI x4))]) hx hb dX5_cut_5 rfl hl (by decide) rfl (fun ls hl => ?_)
      refine lv_iload_n hx hb dX5_cut_6 rfl (lv_at hl 0 rfl) ?_
      refine lv_if_eq (tgt := 12) hx hb dX5_cut_7 (by decide) (fun _ => ?_) (fun c9 => absurd c9 (by decide))
      refine lv_aload_n hx hb dX5_cut_12 rfl (lv_at hl 1 rfl) ?_
      refine lv_iload_n hx hb dX5_cut_13 rfl (lv_at hl 2 rfl) ?_
      refine lv_iload_n hx hb dX5_cut_14 rfl (lv_at hl 3 rfl) ?_
      refine fw_calli (va_runV (As := [.int (nI i2), .int (nI x4)]) (rest := []) ⟨hx, hb, hml, hown, hts⟩ (c_X5_nth l D kk ad n I O J hj hY hR i2 x4 (by omega) (by omega) _) (cwV 2 hts gX5_cut_X5_nth rfl rfl rfl (by decide +kernel) ⟨Nat.le_of_ble_eq_true rfl, Nat.le_of_ble_eq_true rfl⟩) (fw_preV hK hP (ci := 5) rfl (m_at0 hj)) rfl rfl hl.1 rfl (lv_room (Nat.le_of_ble_eq_true rfl)) dX5_cut_15 ⟨Nat.le_of_ble_eq_true rfl, Nat.le_of_ble_eq_true rfl⟩) hD hS hA (fun r w1 H locs hq hP hD hS => ?_)
      obtain ⟨rfl, rfl⟩ := hq
      rcases oc (wk (O 0) x4 (O 1 i2)) with hw5 | ⟨j6, hw5⟩
      · rw [nthJ_none hw5] at hP hD
        refine W.eq (g2 := F0 m 18 ls [.int (-1)]) (by rw [hw5]; rfl) ?_
        refine lv_istore (lv' := [(4, .int (-1)), (3, .int 0), (0, .ref (ad 0 0)), (1, .int (nI i2)), (2, .int (nI x4))]) hx hb dX5_cut_18 hl (by decide) rfl (fun ls hl => ?_)
        refine lv_iload hx hb dX5_cut_20 (lv_at hl 0 rfl) ?_
        refine lv_iconst (v := (-1)) hx hb dX5_cut_22 (by decide) ?_
        refine lv_icmp_ne (tgt := 30) hx hb dX5_cut_23 (by decide) (fun c9 => absurd rfl c9) (fun _ => ?_)
        refine lv_sipush (v := (-201)) hx hb dX5_cut_26 (by decide) ?_
        exact fw_iret hx hb hr hlocks hK hP hD hS dX5_cut_29 ⟨_, _, _, by rw [sp_cut]; exact sp_at_none hf1 hb3 (by omega) hw5 _, mR_tell hR, rfl⟩
      · rw [nthJ_some hw5] at hP hD
        have hj6 := xI_wk hY.1 hw5
        refine W.eq (g2 := F0 m 18 ls [.int (nI j6)]) (by rw [hw5]; rfl) ?_
        refine lv_istore (lv' := [(4, .int (nI j6)), (3, .int 0), (0, .ref (ad 0 0)), (1, .int (nI i2)), (2, .int (nI x4))]) hx hb dX5_cut_18 hl (by decide) rfl (fun ls hl => ?_)
        refine lv_iload hx hb dX5_cut_20 (lv_at hl 0 rfl) ?_
        refine lv_iconst (v := (-1)) hx hb dX5_cut_22 (by decide) ?_
        refine lv_icmp_ne (tgt := 30) hx hb dX5_cut_23 (by decide) (fun _ => ?_) (fun c9 => absurd c9 (nI_m1 (by omega)))
        refine lv_aload_n hx hb dX5_cut_30 rfl (lv_at hl 2 rfl) ?_
        refine fw_get (v := .ref (ad 3 0)) (C := RX5) (T := TX5) (N := 15) hx hb hts in5 hown hK hP (m_at0 hj) rfl 3 (by decide) (hts (.fieldLink RX5 16 "WagonSidingsModel" "behind" "[I") (by decide +kernel)) (fun _ h9 => h9) rfl dX5_cut_31 ?_
        refine lv_iload hx hb dX5_cut_34 (lv_at hl 0 rfl) ?_
        refine lv_iconst (v := (-1)) hx hb dX5_cut_36 (by decide) ?_
        refine fw_iast (w1 := mw kk ad (upI J 3 j6 (-1))) hx hb hK hP hD hS 0 (m_at3 hj) rfl (vp_in_nI (by omega) (by decide)) dX5_cut_37 (by rw [nI_clamp (by omega)]; exact m_st (by omega) hj) (fun H locs hP hD hS => ?_)
        refine lv_aload_n hx hb dX5_cut_38 rfl (lv_at hl 2 rfl) ?_
        refine lv_iconst (v := 1) hx hb dX5_cut_39 (by decide) ?_
        refine lv_iload_n hx hb dX5_cut_40 rfl (lv_at hl 4 rfl) ?_
        refine fw_calli (va_runV (As := [.int 1, .int (nI x4)]) (rest := []) ⟨hx, hb, hml, hown, hts⟩ (c_X5_well l D kk ad (upI J 3 j6 (-1)) hj 1 (nI x4) _) (cwV 2 hts gX5_cut_X5_well rfl rfl rfl (by decide +kernel) ⟨Nat.le_of_ble_eq_true rfl, Nat.le_of_ble_eq_true rfl⟩) (fw_preV hK hP (ci := 5) rfl (m_at0 hj)) rfl rfl hl.1 rfl (lv_room (Nat.le_of_ble_eq_true rfl)) dX5_cut_41 ⟨Nat.le_of_ble_eq_true rfl, Nat.le_of_ble_eq_true rfl⟩) hD hS hA (fun r w1 H locs hq hP hD hS => ?_)
        obtain ⟨rfl, rfl⟩ := hq
        exact fw_iret hx hb hr hlocks hK hP hD hS dX5_cut_44 (by
                rcases oc (O 0 j6) with q | ⟨b, q⟩
                · exact ⟨_, _, _, by rw [sp_cut, sp_at_x hf1 hb3 (by omega) hw5]; simp only [q], upO_id q ▸ mR_tell (mR_beh (o := none) hR), rfl⟩
                · exact ⟨_, _, _, by rw [sp_cut, sp_at_x hf1 hb3 (by omega) hw5]; simp only [q], mR_f2 (j := b) (v := 0) (mR_tell (mR_beh (o := none) hR)), rfl⟩)

set_option maxHeartbeats 4000000 in
set_option maxRecDepth 100000 in
theorem c_X5_hoot (l : Launch) (D : va_G) (kk : Nat → ClassId) (ad : Nat → Nat → Nat) (n : Nat) (I : sI) (O : sO) (J : sI) (hj : sj mV ad) (hY : yI n I O) (hR : mR n I O J) (t a : Int32) : fw_Mi l yX5_hoot wsX5_hoot { frames := 3, cells := 0, slots := 0, locals := 63 } 0 0 D vwCl (xT kk) (mw kk ad J) [.ref (ad 0 0), .int t, .int a] (fun r w1 => ∃ I1 O1 J1, sp_hoot I O t a = (r, I1, O1) ∧ mR n I1 O1 J1 ∧ w1 = mw kk ad J1) := by
  refine fw_ofi (cc := cX5_hoot) (maxL := 7) (ret := (some .int)) (by decide) rfl (Nat.le_of_ble_eq_true rfl) ?_
  intro p e s m args below meth c A ls hx hb hml hr hlocks hnm hts hown hK hP hD hA hS hl
  have hown : s.vm.findClass RX5 = some m.cls := hown
  have hl : lv_has ls 7 [(0, .ref (ad 0 0)), (1, .int t), (2, .int a)] := hl
  have in5 : ∀ w ∈ u_ws RX5 TX5 15, w ∈ wsX5_hoot := by decide +kernel
  have hn40 := hY.1.1
  refine lv_iload_n hx hb dX5_hoot_0 rfl (lv_at hl 1 rfl) ?_
  refine lv_iload_n hx hb dX5_hoot_1 rfl (lv_at hl 2 rfl) ?_
  refine fw_calli (va_runS (As := [.int t, .int a]) (rest := []) ⟨hx, hb, hml, hown, hts⟩ (c_X5_refused l D kk _ t a _) (va_cwS 2 hts gX5_hoot_X5_refused rfl rfl rfl (by decide +kernel) ⟨Nat.le_of_ble_eq_true rfl, Nat.le_of_ble_eq_true rfl⟩) (fw_preS hK hP) rfl rfl hl.1 rfl (lv_room (Nat.le_of_ble_eq_true rfl)) dX5_hoot_2 ⟨Nat.le_of_ble_eq_true rfl, Nat.le_of_ble_eq_true rfl⟩) hD hS hA (fun r w1 H locs hq hP hD hS => ?_)
  obtain ⟨rfl, rfl⟩ := hq
  rcases oc (fnd 6 t) with hf1 | ⟨i2, hf1⟩
  · refine W.eq (g2 := F0 m 5 ls [.int (-101)]) (by rw [rfs, hf1]) ?_
    refine lv_istore_n (lv' := [(3, .int (-101)), (0, .ref (ad 0 0)), (1, .int t), (2, .int a)]) hx hb dX5_hoot_5 rfl hl (by decide) rfl (fun ls hl => ?_)
    refine lv_iload_n hx hb dX5_hoot_6 rfl (lv_at hl 0 rfl) ?_
    refine lv_if_eq (tgt := 12) hx hb dX5_hoot_7 (by decide) (fun c9 => absurd c9 (by decide)) (fun _ => ?_)
    refine lv_iload_n hx hb dX5_hoot_10 rfl (lv_at hl 0 rfl) ?_
    exact fw_iret hx hb hr hlocks hK hP hD hS dX5_hoot_11 ⟨_, _, _, by rw [sp_hoot]; exact sp_at_u hf1 _, hR, rfl⟩
  · by_cases hb3 : a < 0 ∨ 40 < a
    · refine W.eq (g2 := F0 m 5 ls [.int (-102)]) (by rw [rfs, hf1]; exact congrArg (fun z => F0 m 5 ls [.int z]) (pif_t hb3)) ?_
      refine lv_istore_n (lv' := [(3, .int (-102)), (0, .ref (ad 0 0)), (1, .int t), (2, .int a)]) hx hb dX5_hoot_5 rfl hl (by decide) rfl (fun ls hl => ?_)
      refine lv_iload_n hx hb dX5_hoot_6 rfl (lv_at hl 0 rfl) ?_
      refine lv_if_eq (tgt := 12) hx hb dX5_hoot_7 (by decide) (fun c9 => absurd c9 (by decide)) (fun _ => ?_)
      refine lv_iload_n hx hb dX5_hoot_10 rfl (lv_at hl 0 rfl) ?_
      exact fw_iret hx hb hr hlocks hK hP hD hS dX5_hoot_11 ⟨_, _, _, by rw [sp_hoot]; exact sp_at_o hf1 hb3 _, hR, rfl⟩
    · refine W.eq (g2 := F0 m 5 ls [.int 0]) (by rw [rfs, hf1]; exact congrArg (fun z => F0 m 5 ls [.int z]) (pif_f hb3)) ?_
      obtain ⟨hi2, rfl⟩ := fnd_lt hf1
      obtain ⟨x4, hx4, rfl⟩ := nI_40 hb3
      refine lv_istore_n (lv' := [(3, .int 0), (0, .ref (ad 0 0)), (1, .int (nI i2)), (2, .int (nI x4))]) hx hb dX5_hoot_5 rfl hl (by decide) rfl (fun ls hl => ?_)
      refine lv_iload_n hx hb dX5_hoot_6 rfl (lv_at hl 0 rfl) ?_
      refine lv_if_eq (tgt := 12) hx hb dX5_hoot_7 (by decide) (fun _ => ?_) (fun c9 => absurd c9 (by decide))
      refine lv_aload_n hx hb dX5_hoot_12 rfl (lv_at hl 1 rfl) ?_
      refine lv_iload_n hx hb dX5_hoot_13 rfl (lv_at hl 2 rfl) ?_
      refine lv_iload_n hx hb dX5_hoot_14 rfl (lv_at hl 3 rfl) ?_
      refine fw_calli (va_runV (As := [.int (nI i2), .int (nI x4)]) (rest := []) ⟨hx, hb, hml, hown, hts⟩ (c_X5_nth l D kk ad n I O J hj hY hR i2 x4 (by omega) (by omega) _) (cwV 2 hts gX5_hoot_X5_nth rfl rfl rfl (by decide +kernel) ⟨Nat.le_of_ble_eq_true rfl, Nat.le_of_ble_eq_true rfl⟩) (fw_preV hK hP (ci := 5) rfl (m_at0 hj)) rfl rfl hl.1 rfl (lv_room (Nat.le_of_ble_eq_true rfl)) dX5_hoot_15 ⟨Nat.le_of_ble_eq_true rfl, Nat.le_of_ble_eq_true rfl⟩) hD hS hA (fun r w1 H locs hq hP hD hS => ?_)
      obtain ⟨rfl, rfl⟩ := hq
      rcases oc (wk (O 0) x4 (O 1 i2)) with hw5 | ⟨j6, hw5⟩
      · rw [nthJ_none hw5] at hP hD
        refine W.eq (g2 := F0 m 18 ls [.int (-1)]) (by rw [hw5]; rfl) ?_
        refine lv_istore (lv' := [(4, .int (-1)), (3, .int 0), (0, .ref (ad 0 0)), (1, .int (nI i2)), (2, .int (nI x4))]) hx hb dX5_hoot_18 hl (by decide) rfl (fun ls hl => ?_)
        refine lv_iload hx hb dX5_hoot_20 (lv_at hl 0 rfl) ?_
        refine lv_iconst (v := (-1)) hx hb dX5_hoot_22 (by decide) ?_
        refine lv_icmp_ne (tgt := 30) hx hb dX5_hoot_23 (by decide) (fun c9 => absurd rfl c9) (fun _ => ?_)
        refine lv_sipush (v := (-201)) hx hb dX5_hoot_26 (by decide) ?_
        exact fw_iret hx hb hr hlocks hK hP hD hS dX5_hoot_29 ⟨_, _, _, by rw [sp_hoot]; exact sp_at_none hf1 hb3 (by omega) hw5 _, mR_tell hR, rfl⟩
      · rw [nthJ_some hw5] at hP hD
        have hj6 := xI_wk hY.1 hw5
        refine W.eq (g2 := F0 m 18 ls [.int (nI j6)]) (by rw [hw5]; rfl) ?_
        refine lv_istore (lv' := [(4, .int (nI j6)), (3, .int 0), (0, .ref (ad 0 0)), (1, .int (nI i2)), (2, .int (nI x4))]) hx hb dX5_hoot_18 hl (by decide) rfl (fun ls hl => ?_)
        refine lv_iload hx hb dX5_hoot_20 (lv_at hl 0 rfl) ?_
        refine lv_iconst (v := (-1)) hx hb dX5_hoot_22 (by decide) ?_
        refine lv_icmp_ne (tgt := 30) hx hb dX5_hoot_23 (by decide) (fun _ => ?_) (fun c9 => absurd c9 (nI_m1 (by omega)))
        refine lv_aload_n hx hb dX5_hoot_30 rfl (lv_at hl 2 rfl) ?_
        refine fw_get (v := .ref (ad 1 0)) (C := RX5) (T := TX5) (N := 15) hx hb hts in5 hown hK hP (m_at0 hj) rfl 1 (by decide) (hts (.fieldLink RX5 7 "WagonSidingsModel" "kind" "[I") (by decide +kernel)) (fun _ h9 => h9) rfl dX5_hoot_31 ?_
        refine lv_iload hx hb dX5_hoot_34 (lv_at hl 0 rfl) ?_
        refine fw_iald hx hb hK hP 0 (m_at1 hj) rfl (vp_in_nI (by omega) (by decide)) dX5_hoot_36 ?_
        refine W.eq (g2 := F0 m 37 ls [.int (I 0 j6)]) (by rw [nI_clamp (by omega), hR.2.1 _ (by omega)]) ?_
        refine lv_istore (lv' := [(5, .int (I 0 j6)), (4, .int (nI j6)), (3, .int 0), (0, .ref (ad 0 0)), (1, .int (nI i2)), (2, .int (nI x4))]) hx hb dX5_hoot_37 hl (by decide) rfl (fun ls hl => ?_)
        refine lv_aload_n hx hb dX5_hoot_39 rfl (lv_at hl 3 rfl) ?_
        refine fw_get (v := .ref (ad 2 0)) (C := RX5) (T := TX5) (N := 15) hx hb hts in5 hown hK hP (m_at0 hj) rfl 2 (by decide) (hts (.fieldLink RX5 13 "WagonSidingsModel" "load" "[I") (by decide +kernel)) (fun _ h9 => h9) rfl dX5_hoot_40 ?_
        refine lv_iload hx hb dX5_hoot_43 (lv_at hl 1 rfl) ?_
        refine fw_iald hx hb hK hP 0 (m_at2 hj) rfl (vp_in_nI (by omega) (by decide)) dX5_hoot_45 ?_
        refine W.eq (g2 := F0 m 46 ls [.int (I 1 j6)]) (by rw [nI_clamp (by omega), hR.2.2.1 _ (by omega)]) ?_
        refine lv_istore (lv' := [(6, .int (I 1 j6)), (5, .int (I 0 j6)), (4, .int (nI j6)), (3, .int 0), (0, .ref (ad 0 0)), (1, .int (nI i2)), (2, .int (nI x4))]) hx hb dX5_hoot_46 hl (by decide) rfl (fun ls hl => ?_)
        refine lv_aload_n hx hb dX5_hoot_48 rfl (lv_at hl 4 rfl) ?_
        refine lv_iload hx hb dX5_hoot_49 (lv_at hl 1 rfl) ?_
        refine lv_if_ne (tgt := 59) hx hb dX5_hoot_51 (by decide) (fun c_51 => ?_) (fun c_51 => ?_)
        · refine lv_iload hx hb dX5_hoot_59 (lv_at hl 1 rfl) ?_
          refine lv_iconst (v := 3) hx hb dX5_hoot_61 (by decide) ?_
          refine lv_icmp_ge (tgt := 72) hx hb dX5_hoot_62 (by decide) (fun c_62 => ?_) (fun c_62 => ?_)
          · refine lv_iload hx hb dX5_hoot_72 (lv_at hl 1 rfl) ?_
            refine lv_iconst (v := 3) hx hb dX5_hoot_74 (by decide) ?_
            refine lv_icmp_ne (tgt := 86) hx hb dX5_hoot_75 (by decide) (fun c_75 => ?_) (fun c_75 => ?_)
            · refine lv_bipush (v := 10) hx hb dX5_hoot_86 (by decide) ?_
              refine lv_iload hx hb dX5_hoot_88 (lv_at hl 0 rfl) ?_
              refine lv_imul hx hb dX5_hoot_90 ?_
              refine lv_iconst (v := 1) hx hb dX5_hoot_91 (by decide) ?_
              refine lv_isub hx hb dX5_hoot_92 ?_
              refine lv_iload_n hx hb dX5_hoot_93 rfl (lv_at hl 6 rfl) ?_
              refine fw_calli (va_runV (As := [.int ((10 * (I 1 j6)) - 1), .int (nI x4)]) (rest := []) ⟨hx, hb, hml, hown, hts⟩ (c_X5_well l D kk ad J hj ((10 * (I 1 j6)) - 1) (nI x4) _) (cwV 2 hts gX5_hoot_X5_well rfl rfl rfl (by decide +kernel) ⟨Nat.le_of_ble_eq_true rfl, Nat.le_of_ble_eq_true rfl⟩) (fw_preV hK hP (ci := 5) rfl (m_at0 hj)) rfl rfl hl.1 rfl (lv_room (Nat.le_of_ble_eq_true rfl)) dX5_hoot_94 ⟨Nat.le_of_ble_eq_true rfl, Nat.le_of_ble_eq_true rfl⟩) hD hS hA (fun r w1 H locs hq hP hD hS => ?_)
              obtain ⟨rfl, rfl⟩ := hq
              exact fw_iret hx hb hr hlocks hK hP hD hS dX5_hoot_97 ⟨_, _, _, by rw [sp_hoot, sp_at_x hf1 hb3 (by omega) hw5, hoot_4 (hY.2.2.2.2.2.2.2.2 j6 hj6) c_75 c_62], mR_tell hR, rfl⟩
            · refine lv_bipush (v := 10) hx hb dX5_hoot_78 (by decide) ?_
              refine lv_iload hx hb dX5_hoot_80 (lv_at hl 0 rfl) ?_
              refine lv_imul hx hb dX5_hoot_82 ?_
              refine lv_goto (tgt := 93) hx hb dX5_hoot_83 (by decide) ?_
              refine lv_iload_n hx hb dX5_hoot_93 rfl (lv_at hl 6 rfl) ?_
              refine fw_calli (va_runV (As := [.int (10 * (I 1 j6)), .int (nI x4)]) (rest := []) ⟨hx, hb, hml, hown, hts⟩ (c_X5_well l D kk ad J hj (10 * (I 1 j6)) (nI x4) _) (cwV 2 hts gX5_hoot_X5_well rfl rfl rfl (by decide +kernel) ⟨Nat.le_of_ble_eq_true rfl, Nat.le_of_ble_eq_true rfl⟩) (fw_preV hK hP (ci := 5) rfl (m_at0 hj)) rfl rfl hl.1 rfl (lv_room (Nat.le_of_ble_eq_true rfl)) dX5_hoot_94 ⟨Nat.le_of_ble_eq_true rfl, Nat.le_of_ble_eq_true rfl⟩) hD hS hA (fun r w1 H locs hq hP hD hS => ?_)
              obtain ⟨rfl, rfl⟩ := hq
              exact fw_iret hx hb hr hlocks hK hP hD hS dX5_hoot_97 ⟨_, _, _, by rw [sp_hoot, sp_at_x hf1 hb3 (by omega) hw5, hoot_3 c_75], mR_tell hR, rfl⟩
          · refine lv_iload hx hb dX5_hoot_65 (lv_at hl 0 rfl) ?_
            refine lv_iconst (v := 1) hx hb dX5_hoot_67 (by decide) ?_
            refine lv_iadd hx hb dX5_hoot_68 ?_
            refine lv_goto (tgt := 93) hx hb dX5_hoot_69 (by decide) ?_
            refine lv_iload_n hx hb dX5_hoot_93 rfl (lv_at hl 6 rfl) ?_
            refine fw_calli (va_runV (As := [.int ((I 1 j6) + 1), .int (nI x4)]) (rest := []) ⟨hx, hb, hml, hown, hts⟩ (c_X5_well l D kk ad J hj ((I 1 j6) + 1) (nI x4) _) (cwV 2 hts gX5_hoot_X5_well rfl rfl rfl (by decide +kernel) ⟨Nat.le_of_ble_eq_true rfl, Nat.le_of_ble_eq_true rfl⟩) (fw_preV hK hP (ci := 5) rfl (m_at0 hj)) rfl rfl hl.1 rfl (lv_room (Nat.le_of_ble_eq_true rfl)) dX5_hoot_94 ⟨Nat.le_of_ble_eq_true rfl, Nat.le_of_ble_eq_true rfl⟩) hD hS hA (fun r w1 H locs hq hP hD hS => ?_)
            obtain ⟨rfl, rfl⟩ := hq
            exact fw_iret hx hb hr hlocks hK hP hD hS dX5_hoot_97 ⟨_, _, _, by rw [sp_hoot, sp_at_x hf1 hb3 (by omega) hw5, hoot_12 (hY.2.2.2.2.2.2.2.2 j6 hj6) c_51 c_62], mR_tell hR, rfl⟩
        · refine lv_iload hx hb dX5_hoot_54 (lv_at hl 0 rfl) ?_
          refine lv_goto (tgt := 93) hx hb dX5_hoot_56 (by decide) ?_
          refine lv_iload_n hx hb dX5_hoot_93 rfl (lv_at hl 6 rfl) ?_
          refine fw_calli (va_runV (As := [.int (I 1 j6), .int (nI x4)]) (rest := []) ⟨hx, hb, hml, hown, hts⟩ (c_X5_well l D kk ad J hj (I 1 j6) (nI x4) _) (cwV 2 hts gX5_hoot_X5_well rfl rfl rfl (by decide +kernel) ⟨Nat.le_of_ble_eq_true rfl, Nat.le_of_ble_eq_true rfl⟩) (fw_preV hK hP (ci := 5) rfl (m_at0 hj)) rfl rfl hl.1 rfl (lv_room (Nat.le_of_ble_eq_true rfl)) dX5_hoot_94 ⟨Nat.le_of_ble_eq_true rfl, Nat.le_of_ble_eq_true rfl⟩) hD hS hA (fun r w1 H locs hq hP hD hS => ?_)
          obtain ⟨rfl, rfl⟩ := hq
          exact fw_iret hx hb hr hlocks hK hP hD hS dX5_hoot_97 ⟨_, _, _, by rw [sp_hoot, sp_at_x hf1 hb3 (by omega) hw5, hoot_0 c_51], mR_tell hR, rfl⟩

set_option maxHeartbeats 4000000 in
set_option maxRecDepth 100000 in
theorem c_X5_loadAs (l : Launch) (D : va_G) (kk : Nat → ClassId) (ad : Nat → Nat → Nat) (n : Nat) (I : sI) (O : sO) (J : sI) (hj : sj mV ad) (hY : yI n I O) (hR : mR n I O J) (t a k : Int32) : fw_Mi l yX5_loadAs wsX5_loadAs { frames := 3, cells := 0, slots := 0, locals := 63 } 0 0 D vwCl (xT kk) (mw kk ad J) [.ref (ad 0 0), .int t, .int a, .int k] (fun r w1 => ∃ I1 O1 J1, sp_loadAs I O t a k = (r, I1, O1) ∧ mR n I1 O1 J1 ∧ w1 = mw kk ad J1) := by
  refine fw_ofi (cc := cX5_loadAs) (maxL := 6) (ret := (some .int)) (by decide) rfl (Nat.le_of_ble_eq_true rfl) ?_
  intro p e s m args below meth c A ls hx hb hml hr hlocks hnm hts hown hK hP hD hA hS hl
  have hown : s.vm.findClass RX5 = some m.cls := hown
  have hl : lv_has ls 6 [(0, .ref (ad 0 0)), (1, .int t), (2, .int a), (3, .int k)] := hl
  have in5 : ∀ w ∈ u_ws RX5 TX5 15, w ∈ wsX5_loadAs := by decide +kernel
  have hn40 := hY.1.1
  refine lv_iload_n hx hb dX5_loadAs_0 rfl (lv_at hl 1 rfl) ?_
  refine lv_iload_n hx hb dX5_loadAs_1 rfl (lv_at hl 2 rfl) ?_
  refine fw_calli (va_runS (As := [.int t, .int a]) (rest := []) ⟨hx, hb, hml, hown, hts⟩ (c_X5_refused l D kk _ t a _) (va_cwS 2 hts gX5_loadAs_X5_refused rfl rfl rfl (by decide +kernel) ⟨Nat.le_of_ble_eq_true rfl, Nat.le_of_ble_eq_true rfl⟩) (fw_preS hK hP) rfl rfl hl.1 rfl (lv_room (Nat.le_of_ble_eq_true rfl)) dX5_loadAs_2 ⟨Nat.le_of_ble_eq_true rfl, Nat.le_of_ble_eq_true rfl⟩) hD hS hA (fun r w1 H locs hq hP hD hS => ?_)
  obtain ⟨rfl, rfl⟩ := hq
  rcases oc (fnd 6 t) with hf1 | ⟨i2, hf1⟩
  · refine W.eq (g2 := F0 m 5 ls [.int (-101)]) (by rw [rfs, hf1]) ?_
    refine lv_istore (lv' := [(4, .int (-101)), (0, .ref (ad 0 0)), (1, .int t), (2, .int a), (3, .int k)]) hx hb dX5_loadAs_5 hl (by decide) rfl (fun ls hl => ?_)
    refine lv_iload hx hb dX5_loadAs_7 (lv_at hl 0 rfl) ?_
    refine lv_if_eq (tgt := 15) hx hb dX5_loadAs_9 (by decide) (fun c9 => absurd c9 (by decide)) (fun _ => ?_)
    refine lv_iload hx hb dX5_loadAs_12 (lv_at hl 0 rfl) ?_
    exact fw_iret hx hb hr hlocks hK hP hD hS dX5_loadAs_14 ⟨_, _, _, by by_cases z : isKd k; (rw [sp_loadAs, pif_t z]; exact sp_at_u hf1 _); (rw [sp_loadAs, pif_f z, hf1]), hR, rfl⟩
  · by_cases hb3 : a < 0 ∨ 40 < a
    · refine W.eq (g2 := F0 m 5 ls [.int (-102)]) (by rw [rfs, hf1]; exact congrArg (fun z => F0 m 5 ls [.int z]) (pif_t hb3)) ?_
      refine lv_istore (lv' := [(4, .int (-102)), (0, .ref (ad 0 0)), (1, .int t), (2, .int a), (3, .int k)]) hx hb dX5_loadAs_5 hl (by decide) rfl (fun ls hl => ?_)
      refine lv_iload hx hb dX5_loadAs_7 (lv_at hl 0 rfl) ?_
      refine lv_if_eq (tgt := 15) hx hb dX5_loadAs_9 (by decide) (fun c9 => absurd c9 (by decide)) (fun _ => ?_)
      refine lv_iload hx hb dX5_loadAs_12 (lv_at hl 0 rfl) ?_
      exact fw_iret hx hb hr hlocks hK hP hD hS dX5_loadAs_14 ⟨_, _, _, by by_cases z : isKd k; (rw [sp_loadAs, pif_t z]; exact sp_at_o hf1 hb3 _); (rw [sp_loadAs, pif_f z, hf1]), hR, rfl⟩
    · refine W.eq (g2 := F0 m 5 ls [.int 0]) (by rw [rfs, hf1]; exact congrArg (fun z => F0 m 5 ls [.int z]) (pif_f hb3)) ?_
      obtain ⟨hi2, rfl⟩ := fnd_lt hf1
      obtain ⟨x4, hx4, rfl⟩ := nI_40 hb3
      refine lv_istore (lv' := [(4, .int 0), (0, .ref (ad 0 0)), (1, .int (nI i2)), (2, .int (nI x4)), (3, .int k)]) hx hb dX5_loadAs_5 hl (by decide) rfl (fun ls hl => ?_)
      refine lv_iload hx hb dX5_loadAs_7 (lv_at hl 0 rfl) ?_
      refine lv_if_eq (tgt := 15) hx hb dX5_loadAs_9 (by decide) (fun _ => ?_) (fun c9 => absurd c9 (by decide))
      refine lv_iload_n hx hb dX5_loadAs_15 rfl (lv_at hl 4 rfl) ?_
      refine fw_calli (va_runS (As := [.int k]) (rest := []) ⟨hx, hb, hml, hown, hts⟩ (c_X5_isKind l D kk _ k _) (va_cwS 1 hts gX5_loadAs_X5_isKind rfl rfl rfl (by decide +kernel) ⟨Nat.le_of_ble_eq_true rfl, Nat.le_of_ble_eq_true rfl⟩) (fw_preS hK hP) rfl rfl hl.1 rfl (lv_room (Nat.le_of_ble_eq_true rfl)) dX5_loadAs_16 ⟨Nat.le_of_ble_eq_true rfl, Nat.le_of_ble_eq_true rfl⟩) hD hS hA (fun r w1 H locs hq hP hD hS => ?_)
      obtain ⟨rfl, rfl⟩ := hq
      by_cases hb5 : isKd k
      · rw [pif_t hb5]
        refine lv_if_ne (tgt := 25) hx hb dX5_loadAs_19 (by decide) (fun _ => ?_) (fun c9 => absurd c9 (by decide))
        refine lv_aload_n hx hb dX5_loadAs_25 rfl (lv_at hl 1 rfl) ?_
        refine lv_iload_n hx hb dX5_loadAs_26 rfl (lv_at hl 2 rfl) ?_
        refine lv_iload_n hx hb dX5_loadAs_27 rfl (lv_at hl 3 rfl) ?_
        refine fw_calli (va_runV (As := [.int (nI i2), .int (nI x4)]) (rest := []) ⟨hx, hb, hml, hown, hts⟩ (c_X5_nth l D kk ad n I O J hj hY hR i2 x4 (by omega) (by omega) _) (cwV 2 hts gX5_loadAs_X5_nth rfl rfl rfl (by decide +kernel) ⟨Nat.le_of_ble_eq_true rfl, Nat.le_of_ble_eq_true rfl⟩) (fw_preV hK hP (ci := 5) rfl (m_at0 hj)) rfl rfl hl.1 rfl (lv_room (Nat.le_of_ble_eq_true rfl)) dX5_loadAs_28 ⟨Nat.le_of_ble_eq_true rfl, Nat.le_of_ble_eq_true rfl⟩) hD hS hA (fun r w1 H locs hq hP hD hS => ?_)
        obtain ⟨rfl, rfl⟩ := hq
        rcases oc (wk (O 0) x4 (O 1 i2)) with hw6 | ⟨j7, hw6⟩
        · rw [nthJ_none hw6] at hP hD
          refine W.eq (g2 := F0 m 31 ls [.int (-1)]) (by rw [hw6]; rfl) ?_
          refine lv_istore (lv' := [(5, .int (-1)), (4, .int 0), (0, .ref (ad 0 0)), (1, .int (nI i2)), (2, .int (nI x4)), (3, .int k)]) hx hb dX5_loadAs_31 hl (by decide) rfl (fun ls hl => ?_)
          refine lv_iload hx hb dX5_loadAs_33 (lv_at hl 0 rfl) ?_
          refine lv_iconst (v := (-1)) hx hb dX5_loadAs_35 (by decide) ?_
          refine lv_icmp_ne (tgt := 43) hx hb dX5_loadAs_36 (by decide) (fun c9 => absurd rfl c9) (fun _ => ?_)
          refine lv_sipush (v := (-201)) hx hb dX5_loadAs_39 (by decide) ?_
          exact fw_iret hx hb hr hlocks hK hP hD hS dX5_loadAs_42 ⟨_, _, _, by rw [sp_loadAs, pif_t hb5]; exact sp_at_none hf1 hb3 (by omega) hw6 _, mR_tell hR, rfl⟩
        · rw [nthJ_some hw6] at hP hD
          have hj7 := xI_wk hY.1 hw6
          refine W.eq (g2 := F0 m 31 ls [.int (nI j7)]) (by rw [hw6]; rfl) ?_
          refine lv_istore (lv' := [(5, .int (nI j7)), (4, .int 0), (0, .ref (ad 0 0)), (1, .int (nI i2)), (2, .int (nI x4)), (3, .int k)]) hx hb dX5_loadAs_31 hl (by decide) rfl (fun ls hl => ?_)
          refine lv_iload hx hb dX5_loadAs_33 (lv_at hl 0 rfl) ?_
          refine lv_iconst (v := (-1)) hx hb dX5_loadAs_35 (by decide) ?_
          refine lv_icmp_ne (tgt := 43) hx hb dX5_loadAs_36 (by decide) (fun _ => ?_) (fun c9 => absurd c9 (nI_m1 (by omega)))
          refine lv_aload_n hx hb dX5_loadAs_43 rfl (lv_at hl 2 rfl) ?_
          refine fw_get (v := .ref (ad 1 0)) (C := RX5) (T := TX5) (N := 15) hx hb hts in5 hown hK hP (m_at0 hj) rfl 1 (by decide) (hts (.fieldLink RX5 7 "WagonSidingsModel" "kind" "[I") (by decide +kernel)) (fun _ h9 => h9) rfl dX5_loadAs_44 ?_
          refine lv_iload hx hb dX5_loadAs_47 (lv_at hl 0 rfl) ?_
          refine fw_iald hx hb hK hP 0 (m_at1 hj) rfl (vp_in_nI (by omega) (by decide)) dX5_loadAs_49 ?_
          refine W.eq (g2 := F0 m 50 ls [.int (I 0 j7)]) (by rw [nI_clamp (by omega), hR.2.1 _ (by omega)]) ?_
          refine lv_iload_n hx hb dX5_loadAs_50 rfl (lv_at hl 5 rfl) ?_
          refine fw_calli (va_runS (As := [.int (I 0 j7), .int k]) (rest := []) ⟨hx, hb, hml, hown, hts⟩ (c_X5_isOf l D kk _ (I 0 j7) k _) (va_cwS 2 hts gX5_loadAs_X5_isOf rfl rfl rfl (by decide +kernel) ⟨Nat.le_of_ble_eq_true rfl, Nat.le_of_ble_eq_true rfl⟩) (fw_preS hK hP) rfl rfl hl.1 rfl (lv_room (Nat.le_of_ble_eq_true rfl)) dX5_loadAs_51 ⟨Nat.le_of_ble_eq_true rfl, Nat.le_of_ble_eq_true rfl⟩) hD hS hA (fun r w1 H locs hq hP hD hS => ?_)
          obtain ⟨rfl, rfl⟩ := hq
          by_cases hb8 : isOf (I 0 j7) k
          · rw [pif_t hb8]
            refine lv_if_eq (tgt := 72) hx hb dX5_loadAs_54 (by decide) (fun c9 => absurd c9 (by decide)) (fun _ => ?_)
            refine lv_aload_n hx hb dX5_loadAs_57 rfl (lv_at hl 2 rfl) ?_
            refine lv_aload_n hx hb dX5_loadAs_58 rfl (lv_at hl 2 rfl) ?_
            refine fw_get (v := .ref (ad 2 0)) (C := RX5) (T := TX5) (N := 15) hx hb hts in5 hown hK hP (m_at0 hj) rfl 2 (by decide) (hts (.fieldLink RX5 13 "WagonSidingsModel" "load" "[I") (by decide +kernel)) (fun _ h9 => h9) rfl dX5_loadAs_59 ?_
            refine lv_iload hx hb dX5_loadAs_62 (lv_at hl 0 rfl) ?_
            refine fw_iald hx hb hK hP 0 (m_at2 hj) rfl (vp_in_nI (by omega) (by decide)) dX5_loadAs_64 ?_
            refine W.eq (g2 := F0 m 65 ls [.int (I 1 j7), .ref (ad 0 0)]) (by rw [nI_clamp (by omega), hR.2.2.1 _ (by omega)]) ?_
            refine lv_iload_n hx hb dX5_loadAs_65 rfl (lv_at hl 4 rfl) ?_
            refine fw_calli (va_runV (As := [.int (I 1 j7), .int (nI x4)]) (rest := []) ⟨hx, hb, hml, hown, hts⟩ (c_X5_well l D kk ad J hj (I 1 j7) (nI x4) _) (cwV 2 hts gX5_loadAs_X5_well rfl rfl rfl (by decide +kernel) ⟨Nat.le_of_ble_eq_true rfl, Nat.le_of_ble_eq_true rfl⟩) (fw_preV hK hP (ci := 5) rfl (m_at0 hj)) rfl rfl hl.1 rfl (lv_room (Nat.le_of_ble_eq_true rfl)) dX5_loadAs_66 ⟨Nat.le_of_ble_eq_true rfl, Nat.le_of_ble_eq_true rfl⟩) hD hS hA (fun r w1 H locs hq hP hD hS => ?_)
            obtain ⟨rfl, rfl⟩ := hq
            refine lv_goto (tgt := 78) hx hb dX5_loadAs_69 (by decide) ?_
            exact fw_iret hx hb hr hlocks hK hP hD hS dX5_loadAs_78 ⟨_, _, _, by rw [sp_loadAs, pif_t hb5, sp_at_x hf1 hb3 (by omega) hw6, pif_t hb8], mR_tell hR, rfl⟩
          · rw [pif_f hb8]
            refine lv_if_eq (tgt := 72) hx hb dX5_loadAs_54 (by decide) (fun _ => ?_) (fun c9 => absurd c9 (by decide))
            refine lv_aload_n hx hb dX5_loadAs_72 rfl (lv_at hl 2 rfl) ?_
            refine lv_iconst (v := 4) hx hb dX5_loadAs_73 (by decide) ?_
            refine lv_iload_n hx hb dX5_loadAs_74 rfl (lv_at hl 4 rfl) ?_
            refine fw_calli (va_runV (As := [.int 4, .int (nI x4)]) (rest := []) ⟨hx, hb, hml, hown, hts⟩ (c_X5_ends l D kk ad J hj 4 (nI x4) _) (cwV 2 hts gX5_loadAs_X5_ends rfl rfl rfl (by decide +kernel) ⟨Nat.le_of_ble_eq_true rfl, Nat.le_of_ble_eq_true rfl⟩) (fw_preV hK hP (ci := 5) rfl (m_at0 hj)) rfl rfl hl.1 rfl (lv_room (Nat.le_of_ble_eq_true rfl)) dX5_loadAs_75 ⟨Nat.le_of_ble_eq_true rfl, Nat.le_of_ble_eq_true rfl⟩) hD hS hA (fun r w1 H locs hq hP hD hS => ?_)
            obtain ⟨rfl, rfl⟩ := hq
            exact fw_iret hx hb hr hlocks hK hP hD hS dX5_loadAs_78 ⟨_, _, _, by rw [sp_loadAs, pif_t hb5, sp_at_x hf1 hb3 (by omega) hw6, pif_f hb8, tl_tl]; rfl, mR_tell hR, rfl⟩
      · rw [pif_f hb5]
        refine lv_if_ne (tgt := 25) hx hb dX5_loadAs_19 (by decide) (fun c9 => absurd c9 (by decide)) (fun _ => ?_)
        refine lv_bipush (v := (-102)) hx hb dX5_loadAs_22 (by decide) ?_
        exact fw_iret hx hb hr hlocks hK hP hD hS dX5_loadAs_24 ⟨_, _, _, by rw [sp_loadAs, pif_f hb5, hf1], hR, rfl⟩

set_option maxHeartbeats 4000000 in
set_option maxRecDepth 100000 in
theorem c_X5_pull (l : Launch) (D : va_G) (kk : Nat → ClassId) (ad : Nat → Nat → Nat) (n : Nat) (I : sI) (O : sO) (J : sI) (hj : sj mV ad) (hY : yI n I O) (hR : mR n I O J) (t a : Int32) : fw_Mi l yX5_pull wsX5_pull { frames := 3, cells := 0, slots := 0, locals := 63 } 0 0 D vwCl (xT kk) (mw kk ad J) [.ref (ad 0 0), .int t, .int a] (fun r w1 => ∃ I1 O1 J1, sp_pull I O t a = (r, I1, O1) ∧ mR n I1 O1 J1 ∧ w1 = mw kk ad J1) := by
  refine fw_ofi (cc := cX5_pull) (maxL := 7) (ret := (some .int)) (by decide) rfl (Nat.le_of_ble_eq_true rfl) ?_
  intro p e s m args below meth c A ls hx hb hml hr hlocks hnm hts hown hK hP hD hA hS hl
  have hown : s.vm.findClass RX5 = some m.cls := hown
  have hl : lv_has ls 7 [(0, .ref (ad 0 0)), (1, .int t), (2, .int a)] := hl
  have in5 : ∀ w ∈ u_ws RX5 TX5 15, w ∈ wsX5_pull := by decide +kernel
  have hn40 := hY.1.1
  have loop : ∀ (k0 x0 w0 : Nat), w0 < n → x0 ≤ 40 → fnd 6 (nI k0) = some k0 → ¬ (nI x0 < 0 ∨ 40 < nI x0) → wk (O 0) x0 (O 1 k0) = some w0 → isOf (I 0 w0) 3 → ∀ (f : Nat) (o : Option Nat) (acc : Int32) (H : Heap) (locs : List Loc) (ls : Array Slot), fw_P D vwCl (mw kk ad J) H → fw_D A (mw kk ad J) → va_S A s.heap H locs → wk (O 0) f o = none → (∀ y, o = some y → y < n) → acc + csum (O 0) (I 1) o = pull I O w0 → lv_has ls 7 [(6, .int (num o)), (5, .int acc), (0, .ref (ad 0 0)), (1, .int (nI k0)), (2, .int (nI x0)), (3, .int 0), (4, .int (nI w0))] → W p l e { frames := 3, cells := 0, slots := 0, locals := 63 } s m args below meth c H locs 0 0 (MQ below (va_Qi (fun r w1 => ∃ I1 O1 J1, sp_pull I O (nI k0) (nI x0) = (r, I1, O1) ∧ mR n I1 O1 J1 ∧ w1 = mw kk ad J1) (fw_B D vwCl (xT kk) A) A) args s 0 0 A) (F0 m 82 ls []) := by
    intro k0 x0 w0 hw0 hx40 h6 hbx hw h3 f
    induction f with
    | zero =>
      intro o acc H locs ls hP hD hS ho hro hs hl
      have h0 : o = none := ho
      subst h0
      have hl : lv_has ls 7 [(6, .int (-1)), (5, .int acc), (0, .ref (ad 0 0)), (1, .int (nI k0)), (2, .int (nI x0)), (3, .int 0), (4, .int (nI w0))] := hl
      refine lv_iload hx hb dX5_pull_82 (lv_at hl 0 rfl) ?_
      refine lv_iconst (v := (-1)) hx hb dX5_pull_84 (by decide) ?_
      refine lv_icmp_eq (tgt := 112) hx hb dX5_pull_85 (by decide) (fun _ => ?_) (fun c9 => absurd rfl c9)
      refine lv_aload_n hx hb dX5_pull_112 rfl (lv_at hl 2 rfl) ?_
      refine lv_iload hx hb dX5_pull_113 (lv_at hl 1 rfl) ?_
      refine lv_iload_n hx hb dX5_pull_115 rfl (lv_at hl 4 rfl) ?_
      refine fw_calli (va_runV (As := [.int acc, .int (nI x0)]) (rest := []) ⟨hx, hb, hml, hown, hts⟩ (c_X5_well l D kk ad J hj acc (nI x0) _) (cwV 2 hts gX5_pull_X5_well rfl rfl rfl (by decide +kernel) ⟨Nat.le_of_ble_eq_true rfl, Nat.le_of_ble_eq_true rfl⟩) (fw_preV hK hP (ci := 5) rfl (m_at0 hj)) rfl rfl hl.1 rfl (lv_room (Nat.le_of_ble_eq_true rfl)) dX5_pull_116 ⟨Nat.le_of_ble_eq_true rfl, Nat.le_of_ble_eq_true rfl⟩) hD hS hA (fun r w1 H locs hq hP hD hS => ?_)
      obtain ⟨rfl, rfl⟩ := hq
      exact fw_iret hx hb hr hlocks hK hP hD hS dX5_pull_119 ⟨_, _, _, by rw [sp_pull, sp_at_x h6 hbx hx40 hw, pif_t h3, ← hs, csum_none, Int32.add_zero], mR_tell hR, rfl⟩
    | succ f ih =>
      intro o acc H locs ls hP hD hS ho hro hs hl
      rcases o with _ | y
      · have hl : lv_has ls 7 [(6, .int (-1)), (5, .int acc), (0, .ref (ad 0 0)), (1, .int (nI k0)), (2, .int (nI x0)), (3, .int 0), (4, .int (nI w0))] := hl
        refine lv_iload hx hb dX5_pull_82 (lv_at hl 0 rfl) ?_
        refine lv_iconst (v := (-1)) hx hb dX5_pull_84 (by decide) ?_
        refine lv_icmp_eq (tgt := 112) hx hb dX5_pull_85 (by decide) (fun _ => ?_) (fun c9 => absurd rfl c9)
        refine lv_aload_n hx hb dX5_pull_112 rfl (lv_at hl 2 rfl) ?_
        refine lv_iload hx hb dX5_pull_113 (lv_at hl 1 rfl) ?_
        refine lv_iload_n hx hb dX5_pull_115 rfl (lv_at hl 4 rfl) ?_
        refine fw_calli (va_runV (As := [.int acc, .int (nI x0)]) (rest := []) ⟨hx, hb, hml, hown, hts⟩ (c_X5_well l D kk ad J hj acc (nI x0) _) (cwV 2 hts gX5_pull_X5_well rfl rfl rfl (by decide +kernel) ⟨Nat.le_of_ble_eq_true rfl, Nat.le_of_ble_eq_true rfl⟩) (fw_preV hK hP (ci := 5) rfl (m_at0 hj)) rfl rfl hl.1 rfl (lv_room (Nat.le_of_ble_eq_true rfl)) dX5_pull_116 ⟨Nat.le_of_ble_eq_true rfl, Nat.le_of_ble_eq_true rfl⟩) hD hS hA (fun r w1 H locs hq hP hD hS => ?_)
        obtain ⟨rfl, rfl⟩ := hq
        exact fw_iret hx hb hr hlocks hK hP hD hS dX5_pull_119 ⟨_, _, _, by rw [sp_pull, sp_at_x h6 hbx hx40 hw, pif_t h3, ← hs, csum_none, Int32.add_zero], mR_tell hR, rfl⟩
      · have hy0 := hro y rfl
        have hl : lv_has ls 7 [(6, .int (nI y)), (5, .int acc), (0, .ref (ad 0 0)), (1, .int (nI k0)), (2, .int (nI x0)), (3, .int 0), (4, .int (nI w0))] := hl
        refine lv_iload hx hb dX5_pull_82 (lv_at hl 0 rfl) ?_
        refine lv_iconst (v := (-1)) hx hb dX5_pull_84 (by decide) ?_
        refine lv_icmp_eq (tgt := 112) hx hb dX5_pull_85 (by decide) (fun c9 => absurd c9 (nI_m1 (by omega))) (fun _ => ?_)
        refine lv_iload hx hb dX5_pull_88 (lv_at hl 1 rfl) ?_
        refine lv_aload_n hx hb dX5_pull_90 rfl (lv_at hl 2 rfl) ?_
        refine fw_get (v := .ref (ad 2 0)) (C := RX5) (T := TX5) (N := 15) hx hb hts in5 hown hK hP (m_at0 hj) rfl 2 (by decide) (hts (.fieldLink RX5 13 "WagonSidingsModel" "load" "[I") (by decide +kernel)) (fun _ h9 => h9) rfl dX5_pull_91 ?_
        refine lv_iload hx hb dX5_pull_94 (lv_at hl 0 rfl) ?_
        refine fw_iald hx hb hK hP 0 (m_at2 hj) rfl (vp_in_nI (by omega) (by decide)) dX5_pull_96 ?_
        refine W.eq (g2 := F0 m 97 ls [.int (I 1 y), .int acc]) (by rw [nI_clamp (by omega), hR.2.2.1 _ (by omega)]) ?_
        refine lv_iadd hx hb dX5_pull_97 ?_
        refine lv_istore (lv' := [(5, .int (acc + (I 1 y))), (6, .int (nI y)), (0, .ref (ad 0 0)), (1, .int (nI k0)), (2, .int (nI x0)), (3, .int 0), (4, .int (nI w0))]) hx hb dX5_pull_98 hl (by decide) rfl (fun ls hl => ?_)
        refine lv_aload_n hx hb dX5_pull_100 rfl (lv_at hl 2 rfl) ?_
        refine fw_get (v := .ref (ad 3 0)) (C := RX5) (T := TX5) (N := 15) hx hb hts in5 hown hK hP (m_at0 hj) rfl 3 (by decide) (hts (.fieldLink RX5 16 "WagonSidingsModel" "behind" "[I") (by decide +kernel)) (fun _ h9 => h9) rfl dX5_pull_101 ?_
        refine lv_iload hx hb dX5_pull_104 (lv_at hl 1 rfl) ?_
        refine fw_iald hx hb hK hP 0 (m_at3 hj) rfl (vp_in_nI (by omega) (by decide)) dX5_pull_106 ?_
        rcases oc (O 0 y) with ho1 | ⟨j2, ho1⟩
        · refine W.eq (g2 := F0 m 107 ls [.int (-1)]) (by rw [nI_clamp (by omega), hR.2.2.2.1 _ (by omega), ho1]; rfl) ?_
          refine lv_istore (lv' := [(6, .int (-1)), (5, .int (acc + (I 1 y))), (0, .ref (ad 0 0)), (1, .int (nI k0)), (2, .int (nI x0)), (3, .int 0), (4, .int (nI w0))]) hx hb dX5_pull_107 hl (by decide) rfl (fun ls hl => ?_)
          refine lv_goto (tgt := 82) hx hb dX5_pull_109 (by decide) ?_
          exact ih none (acc + I 1 y) H locs ls hP hD hS (by have h9 := ho; rw [wk_some, ho1] at h9; exact h9) (fun y q => by cases q) (by rw [Int32.add_assoc, ← ho1, ← csum_some (I 1) (hY.1.2.2 (some y))]; exact hs) (lv_sub hl [0, 1, 2, 3, 4, 5, 6] rfl)
        · have hj2 := hY.1.2.1 _ _ _ ho1
          refine W.eq (g2 := F0 m 107 ls [.int (nI j2)]) (by rw [nI_clamp (by omega), hR.2.2.2.1 _ (by omega), ho1]; rfl) ?_
          refine lv_istore (lv' := [(6, .int (nI j2)), (5, .int (acc + (I 1 y))), (0, .ref (ad 0 0)), (1, .int (nI k0)), (2, .int (nI x0)), (3, .int 0), (4, .int (nI w0))]) hx hb dX5_pull_107 hl (by decide) rfl (fun ls hl => ?_)
          refine lv_goto (tgt := 82) hx hb dX5_pull_109 (by decide) ?_
          exact ih (some j2) (acc + I 1 y) H locs ls hP hD hS (by have h9 := ho; rw [wk_some, ho1] at h9; exact h9) (fun y q => by cases q; exact hj2) (by rw [Int32.add_assoc, ← ho1, ← csum_some (I 1) (hY.1.2.2 (some y))]; exact hs) (lv_sub hl [0, 1, 2, 3, 4, 5, 6] rfl)
  refine lv_iload_n hx hb dX5_pull_0 rfl (lv_at hl 1 rfl) ?_
  refine lv_iload_n hx hb dX5_pull_1 rfl (lv_at hl 2 rfl) ?_
  refine fw_calli (va_runS (As := [.int t, .int a]) (rest := []) ⟨hx, hb, hml, hown, hts⟩ (c_X5_refused l D kk _ t a _) (va_cwS 2 hts gX5_pull_X5_refused rfl rfl rfl (by decide +kernel) ⟨Nat.le_of_ble_eq_true rfl, Nat.le_of_ble_eq_true rfl⟩) (fw_preS hK hP) rfl rfl hl.1 rfl (lv_room (Nat.le_of_ble_eq_true rfl)) dX5_pull_2 ⟨Nat.le_of_ble_eq_true rfl, Nat.le_of_ble_eq_true rfl⟩) hD hS hA (fun r w1 H locs hq hP hD hS => ?_)
  obtain ⟨rfl, rfl⟩ := hq
  rcases oc (fnd 6 t) with hf3 | ⟨i4, hf3⟩
  · refine W.eq (g2 := F0 m 5 ls [.int (-101)]) (by rw [rfs, hf3]) ?_
    refine lv_istore_n (lv' := [(3, .int (-101)), (0, .ref (ad 0 0)), (1, .int t), (2, .int a)]) hx hb dX5_pull_5 rfl hl (by decide) rfl (fun ls hl => ?_)
    refine lv_iload_n hx hb dX5_pull_6 rfl (lv_at hl 0 rfl) ?_
    refine lv_if_eq (tgt := 12) hx hb dX5_pull_7 (by decide) (fun c9 => absurd c9 (by decide)) (fun _ => ?_)
    refine lv_iload_n hx hb dX5_pull_10 rfl (lv_at hl 0 rfl) ?_
    exact fw_iret hx hb hr hlocks hK hP hD hS dX5_pull_11 ⟨_, _, _, by rw [sp_pull]; exact sp_at_u hf3 _, hR, rfl⟩
  · by_cases hb5 : a < 0 ∨ 40 < a
    · refine W.eq (g2 := F0 m 5 ls [.int (-102)]) (by rw [rfs, hf3]; exact congrArg (fun z => F0 m 5 ls [.int z]) (pif_t hb5)) ?_
      refine lv_istore_n (lv' := [(3, .int (-102)), (0, .ref (ad 0 0)), (1, .int t), (2, .int a)]) hx hb dX5_pull_5 rfl hl (by decide) rfl (fun ls hl => ?_)
      refine lv_iload_n hx hb dX5_pull_6 rfl (lv_at hl 0 rfl) ?_
      refine lv_if_eq (tgt := 12) hx hb dX5_pull_7 (by decide) (fun c9 => absurd c9 (by decide)) (fun _ => ?_)
      refine lv_iload_n hx hb dX5_pull_10 rfl (lv_at hl 0 rfl) ?_
      exact fw_iret hx hb hr hlocks hK hP hD hS dX5_pull_11 ⟨_, _, _, by rw [sp_pull]; exact sp_at_o hf3 hb5 _, hR, rfl⟩
    · refine W.eq (g2 := F0 m 5 ls [.int 0]) (by rw [rfs, hf3]; exact congrArg (fun z => F0 m 5 ls [.int z]) (pif_f hb5)) ?_
      obtain ⟨hi4, rfl⟩ := fnd_lt hf3
      obtain ⟨x6, hx6, rfl⟩ := nI_40 hb5
      refine lv_istore_n (lv' := [(3, .int 0), (0, .ref (ad 0 0)), (1, .int (nI i4)), (2, .int (nI x6))]) hx hb dX5_pull_5 rfl hl (by decide) rfl (fun ls hl => ?_)
      refine lv_iload_n hx hb dX5_pull_6 rfl (lv_at hl 0 rfl) ?_
      refine lv_if_eq (tgt := 12) hx hb dX5_pull_7 (by decide) (fun _ => ?_) (fun c9 => absurd c9 (by decide))
      refine lv_aload_n hx hb dX5_pull_12 rfl (lv_at hl 1 rfl) ?_
      refine lv_iload_n hx hb dX5_pull_13 rfl (lv_at hl 2 rfl) ?_
      refine lv_iload_n hx hb dX5_pull_14 rfl (lv_at hl 3 rfl) ?_
      refine fw_calli (va_runV (As := [.int (nI i4), .int (nI x6)]) (rest := []) ⟨hx, hb, hml, hown, hts⟩ (c_X5_nth l D kk ad n I O J hj hY hR i4 x6 (by omega) (by omega) _) (cwV 2 hts gX5_pull_X5_nth rfl rfl rfl (by decide +kernel) ⟨Nat.le_of_ble_eq_true rfl, Nat.le_of_ble_eq_true rfl⟩) (fw_preV hK hP (ci := 5) rfl (m_at0 hj)) rfl rfl hl.1 rfl (lv_room (Nat.le_of_ble_eq_true rfl)) dX5_pull_15 ⟨Nat.le_of_ble_eq_true rfl, Nat.le_of_ble_eq_true rfl⟩) hD hS hA (fun r w1 H locs hq hP hD hS => ?_)
      obtain ⟨rfl, rfl⟩ := hq
      rcases oc (wk (O 0) x6 (O 1 i4)) with hw7 | ⟨j8, hw7⟩
      · rw [nthJ_none hw7] at hP hD
        refine W.eq (g2 := F0 m 18 ls [.int (-1)]) (by rw [hw7]; rfl) ?_
        refine lv_istore (lv' := [(4, .int (-1)), (3, .int 0), (0, .ref (ad 0 0)), (1, .int (nI i4)), (2, .int (nI x6))]) hx hb dX5_pull_18 hl (by decide) rfl (fun ls hl => ?_)
        refine lv_iload hx hb dX5_pull_20 (lv_at hl 0 rfl) ?_
        refine lv_iconst (v := (-1)) hx hb dX5_pull_22 (by decide) ?_
        refine lv_icmp_ne (tgt := 30) hx hb dX5_pull_23 (by decide) (fun c9 => absurd rfl c9) (fun _ => ?_)
        refine lv_sipush (v := (-201)) hx hb dX5_pull_26 (by decide) ?_
        exact fw_iret hx hb hr hlocks hK hP hD hS dX5_pull_29 ⟨_, _, _, by rw [sp_pull]; exact sp_at_none hf3 hb5 (by omega) hw7 _, mR_tell hR, rfl⟩
      · rw [nthJ_some hw7] at hP hD
        have hj8 := xI_wk hY.1 hw7
        refine W.eq (g2 := F0 m 18 ls [.int (nI j8)]) (by rw [hw7]; rfl) ?_
        refine lv_istore (lv' := [(4, .int (nI j8)), (3, .int 0), (0, .ref (ad 0 0)), (1, .int (nI i4)), (2, .int (nI x6))]) hx hb dX5_pull_18 hl (by decide) rfl (fun ls hl => ?_)
        refine lv_iload hx hb dX5_pull_20 (lv_at hl 0 rfl) ?_
        refine lv_iconst (v := (-1)) hx hb dX5_pull_22 (by decide) ?_
        refine lv_icmp_ne (tgt := 30) hx hb dX5_pull_23 (by decide) (fun _ => ?_) (fun c9 => absurd c9 (nI_m1 (by omega)))
        refine lv_aload_n hx hb dX5_pull_30 rfl (lv_at hl 2 rfl) ?_
        refine fw_get (v := .ref (ad 1 0)) (C := RX5) (T := TX5) (N := 15) hx hb hts in5 hown hK hP (m_at0 hj) rfl 1 (by decide) (hts (.fieldLink RX5 7 "WagonSidingsModel" "kind" "[I") (by decide +kernel)) (fun _ h9 => h9) rfl dX5_pull_31 ?_
        refine lv_iload hx hb dX5_pull_34 (lv_at hl 0 rfl) ?_
        refine fw_iald hx hb hK hP 0 (m_at1 hj) rfl (vp_in_nI (by omega) (by decide)) dX5_pull_36 ?_
        refine W.eq (g2 := F0 m 37 ls [.int (I 0 j8)]) (by rw [nI_clamp (by omega), hR.2.1 _ (by omega)]) ?_
        refine lv_iconst (v := 3) hx hb dX5_pull_37 (by decide) ?_
        refine lv_icmp_ge (tgt := 48) hx hb dX5_pull_38 (by decide) (fun c_38 => ?_) (fun c_38 => ?_)
        · refine lv_aload_n hx hb dX5_pull_48 rfl (lv_at hl 2 rfl) ?_
          refine fw_get (v := .ref (ad 1 0)) (C := RX5) (T := TX5) (N := 15) hx hb hts in5 hown hK hP (m_at0 hj) rfl 1 (by decide) (hts (.fieldLink RX5 7 "WagonSidingsModel" "kind" "[I") (by decide +kernel)) (fun _ h9 => h9) rfl dX5_pull_49 ?_
          refine lv_iload hx hb dX5_pull_52 (lv_at hl 0 rfl) ?_
          refine fw_iald hx hb hK hP 0 (m_at1 hj) rfl (vp_in_nI (by omega) (by decide)) dX5_pull_54 ?_
          refine W.eq (g2 := F0 m 55 ls [.int (I 0 j8)]) (by rw [nI_clamp (by omega), hR.2.1 _ (by omega)]) ?_
          refine lv_iconst (v := 4) hx hb dX5_pull_55 (by decide) ?_
          refine lv_icmp_ne (tgt := 70) hx hb dX5_pull_56 (by decide) (fun c_56 => ?_) (fun c_56 => ?_)
          · refine lv_iconst (v := 0) hx hb dX5_pull_70 (by decide) ?_
            refine lv_istore (lv' := [(5, .int 0), (4, .int (nI j8)), (3, .int 0), (0, .ref (ad 0 0)), (1, .int (nI i4)), (2, .int (nI x6))]) hx hb dX5_pull_71 hl (by decide) rfl (fun ls hl => ?_)
            refine lv_aload_n hx hb dX5_pull_73 rfl (lv_at hl 3 rfl) ?_
            refine fw_get (v := .ref (ad 3 0)) (C := RX5) (T := TX5) (N := 15) hx hb hts in5 hown hK hP (m_at0 hj) rfl 3 (by decide) (hts (.fieldLink RX5 16 "WagonSidingsModel" "behind" "[I") (by decide +kernel)) (fun _ h9 => h9) rfl dX5_pull_74 ?_
            refine lv_iload hx hb dX5_pull_77 (lv_at hl 1 rfl) ?_
            refine fw_iald hx hb hK hP 0 (m_at3 hj) rfl (vp_in_nI (by omega) (by decide)) dX5_pull_79 ?_
            rcases oc (O 0 j8) with ho9 | ⟨j10, ho9⟩
            · refine W.eq (g2 := F0 m 80 ls [.int (-1)]) (by rw [nI_clamp (by omega), hR.2.2.2.1 _ (by omega), ho9]; rfl) ?_
              refine lv_istore (lv' := [(6, .int (-1)), (5, .int 0), (4, .int (nI j8)), (3, .int 0), (0, .ref (ad 0 0)), (1, .int (nI i4)), (2, .int (nI x6))]) hx hb dX5_pull_80 hl (by decide) rfl (fun ls hl => ?_)
              obtain ⟨f0, hf0⟩ := hY.1.2.2 none
              exact loop i4 x6 j8 hj8 (by omega) hf3 hb5 hw7 (isOf_3 (hY.2.2.2.2.2.2.2.2 j8 hj8) c_38) f0 none 0 _ _ ls hP hD hS hf0 (fun y q => by cases q) (by rw [pull, if_neg c_56, ho9, Int32.zero_add]) (lv_sub hl [0, 1, 4, 5, 6, 3, 2] rfl)
            · have hj10 := hY.1.2.1 _ _ _ ho9
              refine W.eq (g2 := F0 m 80 ls [.int (nI j10)]) (by rw [nI_clamp (by omega), hR.2.2.2.1 _ (by omega), ho9]; rfl) ?_
              refine lv_istore (lv' := [(6, .int (nI j10)), (5, .int 0), (4, .int (nI j8)), (3, .int 0), (0, .ref (ad 0 0)), (1, .int (nI i4)), (2, .int (nI x6))]) hx hb dX5_pull_80 hl (by decide) rfl (fun ls hl => ?_)
              obtain ⟨f0, hf0⟩ := hY.1.2.2 (some j10)
              exact loop i4 x6 j8 hj8 (by omega) hf3 hb5 hw7 (isOf_3 (hY.2.2.2.2.2.2.2.2 j8 hj8) c_38) f0 (some j10) 0 _ _ ls hP hD hS hf0 (fun y q => by cases q; exact hj10) (by rw [pull, if_neg c_56, ho9, Int32.zero_add]) (lv_sub hl [0, 1, 4, 5, 6, 3, 2] rfl)
          · refine lv_aload_n hx hb dX5_pull_59 rfl (lv_at hl 2 rfl) ?_
            refine fw_get (v := .ref (ad 2 0)) (C := RX5) (T := TX5) (N := 15) hx hb hts in5 hown hK hP (m_at0 hj) rfl 2 (by decide) (hts (.fieldLink RX5 13 "WagonSidingsModel" "load" "[I") (by decide +kernel)) (fun _ h9 => h9) rfl dX5_pull_60 ?_
            refine lv_iload hx hb dX5_pull_63 (lv_at hl 0 rfl) ?_
            refine fw_iald hx hb hK hP 0 (m_at2 hj) rfl (vp_in_nI (by omega) (by decide)) dX5_pull_65 ?_
            refine W.eq (g2 := F0 m 66 ls [.int (I 1 j8)]) (by rw [nI_clamp (by omega), hR.2.2.1 _ (by omega)]) ?_
            refine lv_ineg hx hb dX5_pull_66 ?_
            refine lv_goto (tgt := 71) hx hb dX5_pull_67 (by decide) ?_
            refine lv_istore (lv' := [(5, .int (-(I 1 j8))), (4, .int (nI j8)), (3, .int 0), (0, .ref (ad 0 0)), (1, .int (nI i4)), (2, .int (nI x6))]) hx hb dX5_pull_71 hl (by decide) rfl (fun ls hl => ?_)
            refine lv_aload_n hx hb dX5_pull_73 rfl (lv_at hl 3 rfl) ?_
            refine fw_get (v := .ref (ad 3 0)) (C := RX5) (T := TX5) (N := 15) hx hb hts in5 hown hK hP (m_at0 hj) rfl 3 (by decide) (hts (.fieldLink RX5 16 "WagonSidingsModel" "behind" "[I") (by decide +kernel)) (fun _ h9 => h9) rfl dX5_pull_74 ?_
            refine lv_iload hx hb dX5_pull_77 (lv_at hl 1 rfl) ?_
            refine fw_iald hx hb hK hP 0 (m_at3 hj) rfl (vp_in_nI (by omega) (by decide)) dX5_pull_79 ?_
            rcases oc (O 0 j8) with ho11 | ⟨j12, ho11⟩
            · refine W.eq (g2 := F0 m 80 ls [.int (-1)]) (by rw [nI_clamp (by omega), hR.2.2.2.1 _ (by omega), ho11]; rfl) ?_
              refine lv_istore (lv' := [(6, .int (-1)), (5, .int (-(I 1 j8))), (4, .int (nI j8)), (3, .int 0), (0, .ref (ad 0 0)), (1, .int (nI i4)), (2, .int (nI x6))]) hx hb dX5_pull_80 hl (by decide) rfl (fun ls hl => ?_)
              obtain ⟨f0, hf0⟩ := hY.1.2.2 none
              exact loop i4 x6 j8 hj8 (by omega) hf3 hb5 hw7 (isOf_3 (hY.2.2.2.2.2.2.2.2 j8 hj8) c_38) f0 none (-(I 1 j8)) _ _ ls hP hD hS hf0 (fun y q => by cases q) (by rw [pull, if_pos c_56, ho11, Int32.sub_eq_add_neg, Int32.add_comm]) (lv_sub hl [0, 1, 4, 5, 6, 3, 2] rfl)
            · have hj12 := hY.1.2.1 _ _ _ ho11
              refine W.eq (g2 := F0 m 80 ls [.int (nI j12)]) (by rw [nI_clamp (by omega), hR.2.2.2.1 _ (by omega), ho11]; rfl) ?_
              refine lv_istore (lv' := [(6, .int (nI j12)), (5, .int (-(I 1 j8))), (4, .int (nI j8)), (3, .int 0), (0, .ref (ad 0 0)), (1, .int (nI i4)), (2, .int (nI x6))]) hx hb dX5_pull_80 hl (by decide) rfl (fun ls hl => ?_)
              obtain ⟨f0, hf0⟩ := hY.1.2.2 (some j12)
              exact loop i4 x6 j8 hj8 (by omega) hf3 hb5 hw7 (isOf_3 (hY.2.2.2.2.2.2.2.2 j8 hj8) c_38) f0 (some j12) (-(I 1 j8)) _ _ ls hP hD hS hf0 (fun y q => by cases q; exact hj12) (by rw [pull, if_pos c_56, ho11, Int32.sub_eq_add_neg, Int32.add_comm]) (lv_sub hl [0, 1, 4, 5, 6, 3, 2] rfl)
        · refine lv_aload_n hx hb dX5_pull_41 rfl (lv_at hl 2 rfl) ?_
          refine lv_iconst (v := 4) hx hb dX5_pull_42 (by decide) ?_
          refine lv_iload_n hx hb dX5_pull_43 rfl (lv_at hl 4 rfl) ?_
          refine fw_calli (va_runV (As := [.int 4, .int (nI x6)]) (rest := []) ⟨hx, hb, hml, hown, hts⟩ (c_X5_ends l D kk ad J hj 4 (nI x6) _) (cwV 2 hts gX5_pull_X5_ends rfl rfl rfl (by decide +kernel) ⟨Nat.le_of_ble_eq_true rfl, Nat.le_of_ble_eq_true rfl⟩) (fw_preV hK hP (ci := 5) rfl (m_at0 hj)) rfl rfl hl.1 rfl (lv_room (Nat.le_of_ble_eq_true rfl)) dX5_pull_44 ⟨Nat.le_of_ble_eq_true rfl, Nat.le_of_ble_eq_true rfl⟩) hD hS hA (fun r w1 H locs hq hP hD hS => ?_)
          obtain ⟨rfl, rfl⟩ := hq
          exact fw_iret hx hb hr hlocks hK hP hD hS dX5_pull_47 ⟨_, _, _, by rw [sp_pull, sp_at_x hf3 hb5 (by omega) hw7, pif_f (isOf_n3 (hY.2.2.2.2.2.2.2.2 j8 hj8) c_38), tl_tl]; rfl, mR_tell hR, rfl⟩

set_option maxHeartbeats 4000000 in
set_option maxRecDepth 100000 in
theorem c_X5_drop (l : Launch) (D : va_G) (kk : Nat → ClassId) (ad : Nat → Nat → Nat) (n : Nat) (I : sI) (O : sO) (J : sI) (hj : sj mV ad) (hY : yI n I O) (hR : mR n I O J) (r0 : Int32) : fw_Mi l yX5_drop wsX5_drop { frames := 2, cells := 0, slots := 0, locals := 42 } 0 0 D vwCl (xT kk) (mw kk ad J) [.ref (ad 0 0), .int r0] (fun r w1 => ∃ I1 O1 J1, sp_drop I O r0 = (r, I1, O1) ∧ mR n I1 O1 J1 ∧ w1 = mw kk ad J1) := by
  refine fw_ofi (cc := cX5_drop) (maxL := 2) (ret := (some .int)) (by decide) rfl (Nat.le_of_ble_eq_true rfl) ?_
  intro p e s m args below meth c A ls hx hb hml hr hlocks hnm hts hown hK hP hD hA hS hl
  have hown : s.vm.findClass RX5 = some m.cls := hown
  have hl : lv_has ls 2 [(0, .ref (ad 0 0)), (1, .int r0)] := hl
  have in5 : ∀ w ∈ u_ws RX5 TX5 15, w ∈ wsX5_drop := by decide +kernel
  have hn40 := hY.1.1
  refine lv_iload_n hx hb dX5_drop_0 rfl (lv_at hl 1 rfl) ?_
  refine fw_calli (va_runS (As := [.int r0]) (rest := []) ⟨hx, hb, hml, hown, hts⟩ (c_X5_isRake l D kk _ r0 _) (va_cwS 1 hts gX5_drop_X5_isRake rfl rfl rfl (by decide +kernel) ⟨Nat.le_of_ble_eq_true rfl, Nat.le_of_ble_eq_true rfl⟩) (fw_preS hK hP) rfl rfl hl.1 rfl (lv_room (Nat.le_of_ble_eq_true rfl)) dX5_drop_1 ⟨Nat.le_of_ble_eq_true rfl, Nat.le_of_ble_eq_true rfl⟩) hD hS hA (fun r w1 H locs hq hP hD hS => ?_)
  obtain ⟨rfl, rfl⟩ := hq
  rcases oc (fnd 4 r0) with hf1 | ⟨i2, hf1⟩
  · refine W.eq (g2 := F0 m 4 ls [.int 0]) (by rw [hf1]; rfl) ?_
    refine lv_if_ne (tgt := 10) hx hb dX5_drop_4 (by decide) (fun c9 => absurd c9 (by decide)) (fun _ => ?_)
    refine lv_bipush (v := (-101)) hx hb dX5_drop_7 (by decide) ?_
    exact fw_iret hx hb hr hlocks hK hP hD hS dX5_drop_9 ⟨_, _, _, by simp [sp_drop, pif_True, pif_False, tl_4, hf1], hR, rfl⟩
  · refine W.eq (g2 := F0 m 4 ls [.int 1]) (by rw [hf1]; rfl) ?_
    obtain ⟨hi2, rfl⟩ := fnd_lt hf1
    refine lv_if_ne (tgt := 10) hx hb dX5_drop_4 (by decide) (fun _ => ?_) (fun c9 => absurd c9 (by decide))
    refine lv_aload_n hx hb dX5_drop_10 rfl (lv_at hl 0 rfl) ?_
    refine fw_get (v := .ref (ad 6 0)) (C := RX5) (T := TX5) (N := 15) hx hb hts in5 hown hK hP (m_at0 hj) rfl 6 (by decide) (hts (.fieldLink RX5 25 "WagonSidingsModel" "rakeLong" "[I") (by decide +kernel)) (fun _ h9 => h9) rfl dX5_drop_11 ?_
    refine lv_iload_n hx hb dX5_drop_14 rfl (lv_at hl 1 rfl) ?_
    refine lv_iconst (v := (-1)) hx hb dX5_drop_15 (by decide) ?_
    refine fw_iast (w1 := mw kk ad (upI J 6 i2 (-1))) hx hb hK hP hD hS 0 (m_at6 hj) rfl (vp_in_nI (by omega) (by decide)) dX5_drop_16 (by rw [nI_clamp (by omega)]; exact m_st (by omega) hj) (fun H locs hP hD hS => ?_)
    refine lv_iconst (v := 1) hx hb dX5_drop_17 (by decide) ?_
    exact fw_iret hx hb hr hlocks hK hP hD hS dX5_drop_18 ⟨_, _, _, by simp [sp_drop, pif_True, pif_False, tl_4, hf1], mR_drop hR, rfl⟩

set_option maxHeartbeats 4000000 in
set_option maxRecDepth 100000 in
theorem c_X5_raise (l : Launch) (D : va_G) (kk : Nat → ClassId) (ad : Nat → Nat → Nat) (n : Nat) (I : sI) (O : sO) (J : sI) (hj : sj mV ad) (hY : yI n I O) (hR : mR n I O J) (t : Int32) : fw_Mi l yX5_raise wsX5_raise { frames := 2, cells := 0, slots := 0, locals := 42 } 0 0 D vwCl (xT kk) (mw kk ad J) [.ref (ad 0 0), .int t] (fun r w1 => ∃ I1 O1 J1, sp_raise I O t = (r, I1, O1) ∧ mR n I1 O1 J1 ∧ w1 = mw kk ad J1) := by
  refine fw_ofi (cc := cX5_raise) (maxL := 3) (ret := (some .int)) (by decide) rfl (Nat.le_of_ble_eq_true rfl) ?_
  intro p e s m args below meth c A ls hx hb hml hr hlocks hnm hts hown hK hP hD hA hS hl
  have hown : s.vm.findClass RX5 = some m.cls := hown
  have hl : lv_has ls 3 [(0, .ref (ad 0 0)), (1, .int t)] := hl
  have in5 : ∀ w ∈ u_ws RX5 TX5 15, w ∈ wsX5_raise := by decide +kernel
  have hn40 := hY.1.1
  refine lv_iload_n hx hb dX5_raise_0 rfl (lv_at hl 1 rfl) ?_
  refine fw_calli (va_runS (As := [.int t]) (rest := []) ⟨hx, hb, hml, hown, hts⟩ (c_X5_isTrack l D kk _ t _) (va_cwS 1 hts gX5_raise_X5_isTrack rfl rfl rfl (by decide +kernel) ⟨Nat.le_of_ble_eq_true rfl, Nat.le_of_ble_eq_true rfl⟩) (fw_preS hK hP) rfl rfl hl.1 rfl (lv_room (Nat.le_of_ble_eq_true rfl)) dX5_raise_1 ⟨Nat.le_of_ble_eq_true rfl, Nat.le_of_ble_eq_true rfl⟩) hD hS hA (fun r w1 H locs hq hP hD hS => ?_)
  obtain ⟨rfl, rfl⟩ := hq
  rcases oc (fnd 6 t) with hf1 | ⟨i2, hf1⟩
  · refine W.eq (g2 := F0 m 4 ls [.int 0]) (by rw [hf1]; rfl) ?_
    refine lv_if_ne (tgt := 10) hx hb dX5_raise_4 (by decide) (fun c9 => absurd c9 (by decide)) (fun _ => ?_)
    refine lv_bipush (v := (-101)) hx hb dX5_raise_7 (by decide) ?_
    exact fw_iret hx hb hr hlocks hK hP hD hS dX5_raise_9 ⟨_, _, _, by simp [sp_raise, pif_True, pif_False, tl_4, hf1], hR, rfl⟩
  · refine W.eq (g2 := F0 m 4 ls [.int 1]) (by rw [hf1]; rfl) ?_
    obtain ⟨hi2, rfl⟩ := fnd_lt hf1
    refine lv_if_ne (tgt := 10) hx hb dX5_raise_4 (by decide) (fun _ => ?_) (fun c9 => absurd c9 (by decide))
    refine lv_aload_n hx hb dX5_raise_10 rfl (lv_at hl 0 rfl) ?_
    refine fw_get (v := .ref (ad 5 0)) (C := RX5) (T := TX5) (N := 15) hx hb hts in5 hown hK hP (m_at0 hj) rfl 5 (by decide) (hts (.fieldLink RX5 22 "WagonSidingsModel" "signal" "[I") (by decide +kernel)) (fun _ h9 => h9) rfl dX5_raise_11 ?_
    refine lv_iload_n hx hb dX5_raise_14 rfl (lv_at hl 1 rfl) ?_
    refine fw_iald hx hb hK hP 0 (m_at5 hj) rfl (vp_in_nI (by omega) (by decide)) dX5_raise_15 ?_
    refine W.eq (g2 := F0 m 16 ls [.int (I 4 i2)]) (by rw [nI_clamp (by omega), hR.2.2.2.2.2.1 _ (by omega)]) ?_
    refine lv_iconst (v := (-1)) hx hb dX5_raise_16 (by decide) ?_
    refine lv_icmp_ne (tgt := 27) hx hb dX5_raise_17 (by decide) (fun c_17 => ?_) (fun c_17 => ?_)
    · refine lv_aload_n hx hb dX5_raise_27 rfl (lv_at hl 0 rfl) ?_
      refine lv_bipush (v := 6) hx hb dX5_raise_28 (by decide) ?_
      refine lv_iconst (v := 0) hx hb dX5_raise_30 (by decide) ?_
      refine fw_calli (va_runV (As := [.int 6, .int 0]) (rest := []) ⟨hx, hb, hml, hown, hts⟩ (c_X5_ends l D kk ad J hj 6 0 _) (cwV 2 hts gX5_raise_X5_ends rfl rfl rfl (by decide +kernel) ⟨Nat.le_of_ble_eq_true rfl, Nat.le_of_ble_eq_true rfl⟩) (fw_preV hK hP (ci := 5) rfl (m_at0 hj)) rfl rfl hl.1 rfl (lv_room (Nat.le_of_ble_eq_true rfl)) dX5_raise_31 ⟨Nat.le_of_ble_eq_true rfl, Nat.le_of_ble_eq_true rfl⟩) hD hS hA (fun r w1 H locs hq hP hD hS => ?_)
      obtain ⟨rfl, rfl⟩ := hq
      refine lv_istore_n (lv' := [(2, .int (-200 - 6)), (0, .ref (ad 0 0)), (1, .int (nI i2))]) hx hb dX5_raise_34 rfl hl (by decide) rfl (fun ls hl => ?_)
      refine lv_aload_n hx hb dX5_raise_35 rfl (lv_at hl 1 rfl) ?_
      refine lv_aload_n hx hb dX5_raise_36 rfl (lv_at hl 1 rfl) ?_
      refine fw_get (v := .ref (ad 5 0)) (C := RX5) (T := TX5) (N := 15) hx hb hts in5 hown hK hP (m_at0 hj) rfl 5 (by decide) (hts (.fieldLink RX5 22 "WagonSidingsModel" "signal" "[I") (by decide +kernel)) (fun _ h9 => h9) rfl dX5_raise_37 ?_
      refine lv_iload_n hx hb dX5_raise_40 rfl (lv_at hl 2 rfl) ?_
      refine fw_iald hx hb hK hP 0 (m_at5 hj) rfl (vp_in_nI (by omega) (by decide)) dX5_raise_41 ?_
      refine W.eq (g2 := F0 m 42 ls [.int ((tl I 6 0) 4 i2), .ref (ad 0 0)]) (by rw [nI_clamp (by omega), (mR_tell (f := 6) (c0 := 0) hR).2.2.2.2.2.1 _ (by omega)]) ?_
      refine fw_put (v := .int ((tl I 6 0) 4 i2)) (ty := .int) (C := RX5) (T := TX5) (N := 15) hx hb hts in5 tyX5 tyX5_ok nmX5 hown hK hP hD hS (m_at0 hj) rfl 14 (by decide) (hts (.fieldLink RX5 74 "WagonSidingsModel" "raised" "I") (by decide +kernel)) (fun _ h9 => h9) rfl (by decide +kernel) rfl rfl (Nat.le_of_ble_eq_true rfl) dX5_raise_42 (m_put14 hj) (fun H locs hP hD hS => ?_)
      refine lv_iload_n hx hb dX5_raise_45 rfl (lv_at hl 0 rfl) ?_
      exact fw_iret hx hb hr hlocks hK hP hD hS dX5_raise_46 ⟨_, _, _, by simp [sp_raise, pif_True, pif_False, tl_4, hf1, c_17], mR_raise (mR_tell hR), rfl⟩
    · refine lv_aload_n hx hb dX5_raise_20 rfl (lv_at hl 0 rfl) ?_
      refine lv_iconst (v := 1) hx hb dX5_raise_21 (by decide) ?_
      refine lv_iconst (v := 0) hx hb dX5_raise_22 (by decide) ?_
      refine fw_calli (va_runV (As := [.int 1, .int 0]) (rest := []) ⟨hx, hb, hml, hown, hts⟩ (c_X5_ends l D kk ad J hj 1 0 _) (cwV 2 hts gX5_raise_X5_ends rfl rfl rfl (by decide +kernel) ⟨Nat.le_of_ble_eq_true rfl, Nat.le_of_ble_eq_true rfl⟩) (fw_preV hK hP (ci := 5) rfl (m_at0 hj)) rfl rfl hl.1 rfl (lv_room (Nat.le_of_ble_eq_true rfl)) dX5_raise_23 ⟨Nat.le_of_ble_eq_true rfl, Nat.le_of_ble_eq_true rfl⟩) hD hS hA (fun r w1 H locs hq hP hD hS => ?_)
      obtain ⟨rfl, rfl⟩ := hq
      exact fw_iret hx hb hr hlocks hK hP hD hS dX5_raise_26 ⟨_, _, _, by simp [sp_raise, pif_True, pif_False, tl_4, hf1, eq_true c_17], mR_tell hR, rfl⟩

set_option maxHeartbeats 4000000 in
set_option maxRecDepth 100000 in
theorem c_X5_told (l : Launch) (D : va_G) (kk : Nat → ClassId) (ad : Nat → Nat → Nat) (n : Nat) (I : sI) (O : sO) (J : sI) (hj : sj mV ad) (hY : yI n I O) (hR : mR n I O J) (q : Int32) : fw_Mi l yX5_told wsX5_told { frames := 0, cells := 0, slots := 0, locals := 0 } 0 0 D vwCl (xT kk) (mw kk ad J) [.ref (ad 0 0), .int q] (fun r w1 => sp_told I q = r ∧ w1 = mw kk ad J) := by
  refine fw_ofi (cc := cX5_told) (maxL := 2) (ret := (some .int)) (by decide) rfl (Nat.le_of_ble_eq_true rfl) ?_
  intro p e s m args below meth c A ls hx hb hml hr hlocks hnm hts hown hK hP hD hA hS hl
  have hown : s.vm.findClass RX5 = some m.cls := hown
  have hl : lv_has ls 2 [(0, .ref (ad 0 0)), (1, .int q)] := hl
  have in5 : ∀ w ∈ u_ws RX5 TX5 15, w ∈ wsX5_told := by decide +kernel
  have hn40 := hY.1.1
  refine lv_iload_n hx hb dX5_told_0 rfl (lv_at hl 1 rfl) ?_
  refine lv_if_ne (tgt := 11) hx hb dX5_told_1 (by decide) (fun c_1 => ?_) (fun c_1 => ?_)
  · refine lv_iload_n hx hb dX5_told_11 rfl (lv_at hl 1 rfl) ?_
    refine lv_iconst (v := 1) hx hb dX5_told_12 (by decide) ?_
    refine lv_icmp_ne (tgt := 23) hx hb dX5_told_13 (by decide) (fun c_13 => ?_) (fun c_13 => ?_)
    · refine lv_iload_n hx hb dX5_told_23 rfl (lv_at hl 1 rfl) ?_
      refine lv_iconst (v := 2) hx hb dX5_told_24 (by decide) ?_
      refine lv_icmp_ne (tgt := 35) hx hb dX5_told_25 (by decide) (fun c_25 => ?_) (fun c_25 => ?_)
      · refine lv_bipush (v := (-101)) hx hb dX5_told_35 (by decide) ?_
        exact fw_iret hx hb hr hlocks hK hP hD hS dX5_told_37 ⟨by simp [sp_told, c_1, c_13, c_25, hR.2.2.2.2.2.2.2.2.2.2.2.2.1, hR.2.2.2.2.2.2.2.2.2.2.2.2.2.1, hR.2.2.2.2.2.2.2.2.2.2.2.2.2.2], rfl⟩
      · refine lv_aload_n hx hb dX5_told_28 rfl (lv_at hl 0 rfl) ?_
        refine fw_get (v := .int (J 14 0)) (C := RX5) (T := TX5) (N := 15) hx hb hts in5 hown hK hP (m_at0 hj) rfl 14 (by decide) (hts (.fieldLink RX5 74 "WagonSidingsModel" "raised" "I") (by decide +kernel)) (fun _ h9 => h9) rfl dX5_told_29 ?_
        refine lv_goto (tgt := 37) hx hb dX5_told_32 (by decide) ?_
        exact fw_iret hx hb hr hlocks hK hP hD hS dX5_told_37 ⟨by simp [sp_told, c_1, c_13, eq_true c_25, hR.2.2.2.2.2.2.2.2.2.2.2.2.1, hR.2.2.2.2.2.2.2.2.2.2.2.2.2.1, hR.2.2.2.2.2.2.2.2.2.2.2.2.2.2], rfl⟩
    · refine lv_aload_n hx hb dX5_told_16 rfl (lv_at hl 0 rfl) ?_
      refine fw_get (v := .int (J 13 0)) (C := RX5) (T := TX5) (N := 15) hx hb hts in5 hown hK hP (m_at0 hj) rfl 13 (by decide) (hts (.fieldLink RX5 71 "WagonSidingsModel" "gone" "I") (by decide +kernel)) (fun _ h9 => h9) rfl dX5_told_17 ?_
      refine lv_goto (tgt := 37) hx hb dX5_told_20 (by decide) ?_
      exact fw_iret hx hb hr hlocks hK hP hD hS dX5_told_37 ⟨by simp [sp_told, c_1, eq_true c_13, hR.2.2.2.2.2.2.2.2.2.2.2.2.1, hR.2.2.2.2.2.2.2.2.2.2.2.2.2.1, hR.2.2.2.2.2.2.2.2.2.2.2.2.2.2], rfl⟩
  · refine lv_aload_n hx hb dX5_told_4 rfl (lv_at hl 0 rfl) ?_
    refine fw_get (v := .int (J 12 0)) (C := RX5) (T := TX5) (N := 15) hx hb hts in5 hown hK hP (m_at0 hj) rfl 12 (by decide) (hts (.fieldLink RX5 68 "WagonSidingsModel" "failure" "I") (by decide +kernel)) (fun _ h9 => h9) rfl dX5_told_5 ?_
    refine lv_goto (tgt := 37) hx hb dX5_told_8 (by decide) ?_
    exact fw_iret hx hb hr hlocks hK hP hD hS dX5_told_37 ⟨by simp [sp_told, eq_true c_1, hR.2.2.2.2.2.2.2.2.2.2.2.2.1, hR.2.2.2.2.2.2.2.2.2.2.2.2.2.1, hR.2.2.2.2.2.2.2.2.2.2.2.2.2.2], rfl⟩

