set_option maxHeartbeats 4000000 in
set_option maxRecDepth 100000 in
theorem c_X5_hasAhead (l : Launch) (D : va_G) (kk : Nat → ClassId) (ad : Nat → Nat → Nat) (n : Nat) (I : sI) (O : sO) (J : sI) (hj : sj mV ad) (hY : yI n I O) (hR : mR n I O J) (j : Nat) (hjn : j < n) : fw_Mi l yX5_hasAhead wsX5_hasAhead { frames := 0, cells := 0, slots := 0, locals := 0 } 0 0 D vwCl (xT kk) (mw kk ad J) [.ref (ad 0 0), .int (nI j)] (fun r w1 => r = pif (¬ I 2 j = 0) 1 0 ∧ w1 = mw kk ad J) := by
  refine fw_ofi (cc := cX5_hasAhead) (maxL := 4) (ret := (some .boolean)) (by decide) rfl (Nat.le_of_ble_eq_true rfl) ?_
  intro p e s m args below meth c A ls hx hb hml hr hlocks hnm hts hown hK hP hD hA hS hl
  have hown : s.vm.findClass RX5 = some m.cls := hown
  have hl : lv_has ls 4 [(0, .ref (ad 0 0)), (1, .int (nI j))] := hl
  have in5 : ∀ w ∈ u_ws RX5 TX5 15, w ∈ wsX5_hasAhead := by decide +kernel
  have hn40 := hY.1.1
  have loop : ∀ (f d : Nat) (v : Int32) (ls : Array Slot), d + f = n → ((v = 0 ∧ ∀ x, x < d → ¬ O 0 x = some j) ∨ (v = 1 ∧ ∃ x, O 0 x = some j)) → lv_has ls 4 [(2, .int v), (3, .int (nI d)), (0, .ref (ad 0 0)), (1, .int (nI j))] → W p l e { frames := 0, cells := 0, slots := 0, locals := 0 } s m args below meth c s.heap [] 0 0 (MQ below (va_Qi (fun r w1 => r = pif (¬ I 2 j = 0) 1 0 ∧ w1 = mw kk ad J) (fw_B D vwCl (xT kk) A) A) args s 0 0 A) (F0 m 4 ls []) := by
    intro f
    induction f with
    | zero =>
      intro d v ls hdf hv hl
      rcases hv with ⟨rfl, hv⟩ | ⟨rfl, hv⟩
      · refine lv_iload_n hx hb dX5_hasAhead_4 rfl (lv_at hl 1 rfl) ?_
        refine lv_aload_n hx hb dX5_hasAhead_5 rfl (lv_at hl 2 rfl) ?_
        refine fw_get (v := .int (J 0 0)) (C := RX5) (T := TX5) (N := 15) hx hb hts in5 hown hK hP (m_at0 hj) rfl 0 (by decide) (hts (.fieldLink RX5 43 "WagonSidingsModel" "wagons" "I") (by decide +kernel)) (fun _ h9 => h9) rfl dX5_hasAhead_6 ?_
        refine W.eq (g2 := F0 m 9 ls [.int (nI n), .int (nI d)]) (by rw [hR.1]) ?_
        refine lv_icmp_ge (tgt := 38) hx hb dX5_hasAhead_9 (by decide) (fun _ => ?_) (fun c9 => absurd (nI_le (by omega) (by omega)) c9)
        refine lv_iload_n hx hb dX5_hasAhead_38 rfl (lv_at hl 0 rfl) ?_
        exact fw_zret hx hb hr (by decide) hlocks hK hP hD hS dX5_hasAhead_39 ⟨(pif_f (fun z => by obtain ⟨x, q⟩ := hY.2.2.1 j hjn z; exact hv x (by have := (hY.2.1 x j q).1; omega) q)).symm, rfl⟩
      · refine lv_iload_n hx hb dX5_hasAhead_4 rfl (lv_at hl 1 rfl) ?_
        refine lv_aload_n hx hb dX5_hasAhead_5 rfl (lv_at hl 2 rfl) ?_
        refine fw_get (v := .int (J 0 0)) (C := RX5) (T := TX5) (N := 15) hx hb hts in5 hown hK hP (m_at0 hj) rfl 0 (by decide) (hts (.fieldLink RX5 43 "WagonSidingsModel" "wagons" "I") (by decide +kernel)) (fun _ h9 => h9) rfl dX5_hasAhead_6 ?_
        refine W.eq (g2 := F0 m 9 ls [.int (nI n), .int (nI d)]) (by rw [hR.1]) ?_
        refine lv_icmp_ge (tgt := 38) hx hb dX5_hasAhead_9 (by decide) (fun _ => ?_) (fun c9 => absurd (nI_le (by omega) (by omega)) c9)
        refine lv_iload_n hx hb dX5_hasAhead_38 rfl (lv_at hl 0 rfl) ?_
        exact fw_zret hx hb hr (by decide) hlocks hK hP hD hS dX5_hasAhead_39 ⟨(pif_t (by obtain ⟨x, q⟩ := hv; exact (hY.2.1 x j q).2)).symm, rfl⟩
    | succ f ih =>
      intro d v ls hdf hv hl
      rcases hv with ⟨rfl, hv⟩ | ⟨rfl, hv⟩
      · refine lv_iload_n hx hb dX5_hasAhead_4 rfl (lv_at hl 1 rfl) ?_
        refine lv_aload_n hx hb dX5_hasAhead_5 rfl (lv_at hl 2 rfl) ?_
        refine fw_get (v := .int (J 0 0)) (C := RX5) (T := TX5) (N := 15) hx hb hts in5 hown hK hP (m_at0 hj) rfl 0 (by decide) (hts (.fieldLink RX5 43 "WagonSidingsModel" "wagons" "I") (by decide +kernel)) (fun _ h9 => h9) rfl dX5_hasAhead_6 ?_
        refine W.eq (g2 := F0 m 9 ls [.int (nI n), .int (nI d)]) (by rw [hR.1]) ?_
        refine lv_icmp_ge (tgt := 38) hx hb dX5_hasAhead_9 (by decide) (fun c9 => absurd c9 (nI_ge (by omega) (by omega))) (fun _ => ?_)
        refine lv_iload_n hx hb dX5_hasAhead_12 rfl (lv_at hl 0 rfl) ?_
        refine lv_if_ne (tgt := 26) hx hb dX5_hasAhead_13 (by decide) (fun c9 => absurd c9 (by decide)) (fun _ => ?_)
        refine lv_aload_n hx hb dX5_hasAhead_16 rfl (lv_at hl 2 rfl) ?_
        refine fw_get (v := .ref (ad 3 0)) (C := RX5) (T := TX5) (N := 15) hx hb hts in5 hown hK hP (m_at0 hj) rfl 3 (by decide) (hts (.fieldLink RX5 16 "WagonSidingsModel" "behind" "[I") (by decide +kernel)) (fun _ h9 => h9) rfl dX5_hasAhead_17 ?_
        refine lv_iload_n hx hb dX5_hasAhead_20 rfl (lv_at hl 1 rfl) ?_
        refine fw_iald hx hb hK hP 0 (m_at3 hj) rfl (vp_in_nI (by omega) (by decide)) dX5_hasAhead_21 ?_
        rcases oc (O 0 d) with ho1 | ⟨j2, ho1⟩
        · refine W.eq (g2 := F0 m 22 ls [.int (-1)]) (by rw [nI_clamp (by omega), hR.2.2.2.1 _ (by omega), ho1]; rfl) ?_
          refine lv_iload_n hx hb dX5_hasAhead_22 rfl (lv_at hl 3 rfl) ?_
          refine lv_icmp_ne (tgt := 30) hx hb dX5_hasAhead_23 (by decide) (fun _ => ?_) (fun c9 => absurd c9 (fun z => nI_m1 (by omega) z.symm))
          refine lv_iconst (v := 0) hx hb dX5_hasAhead_30 (by decide) ?_
          refine lv_istore_n (lv' := [(2, .int 0), (3, .int (nI d)), (0, .ref (ad 0 0)), (1, .int (nI j))]) hx hb dX5_hasAhead_31 rfl hl (by decide) rfl (fun ls hl => ?_)
          refine lv_iinc (v := nI (d + 1)) (lv' := [(3, .int (nI (d + 1))), (2, .int 0), (0, .ref (ad 0 0)), (1, .int (nI j))]) hx hb dX5_hasAhead_32 hl (k := 1) rfl (nI_1 d) (by decide) rfl (fun ls hl => ?_)
          refine lv_goto (tgt := 4) hx hb dX5_hasAhead_35 (by decide) ?_
          exact ih (d + 1) 0 ls (by omega) (Or.inl ⟨rfl, fun x hx q => by rcases Nat.lt_or_ge x d with z | z; exact hv x z q; obtain rfl : x = d := (by omega); rw [ho1] at q; cases q⟩) (lv_sub hl [1, 0, 2, 3] rfl)
        · have hj2 := hY.1.2.1 _ _ _ ho1
          refine W.eq (g2 := F0 m 22 ls [.int (nI j2)]) (by rw [nI_clamp (by omega), hR.2.2.2.1 _ (by omega), ho1]; rfl) ?_
          refine lv_iload_n hx hb dX5_hasAhead_22 rfl (lv_at hl 3 rfl) ?_
          refine lv_icmp_ne (tgt := 30) hx hb dX5_hasAhead_23 (by decide) (fun c_23 => ?_) (fun c_23 => ?_)
          · refine lv_iconst (v := 0) hx hb dX5_hasAhead_30 (by decide) ?_
            refine lv_istore_n (lv' := [(2, .int 0), (3, .int (nI d)), (0, .ref (ad 0 0)), (1, .int (nI j))]) hx hb dX5_hasAhead_31 rfl hl (by decide) rfl (fun ls hl => ?_)
            refine lv_iinc (v := nI (d + 1)) (lv' := [(3, .int (nI (d + 1))), (2, .int 0), (0, .ref (ad 0 0)), (1, .int (nI j))]) hx hb dX5_hasAhead_32 hl (k := 1) rfl (nI_1 d) (by decide) rfl (fun ls hl => ?_)
            refine lv_goto (tgt := 4) hx hb dX5_hasAhead_35 (by decide) ?_
            exact ih (d + 1) 0 ls (by omega) (Or.inl ⟨rfl, fun x hx q => by rcases Nat.lt_or_ge x d with z | z; exact hv x z q; obtain rfl : x = d := (by omega); rw [ho1] at q; cases q; exact c_23 rfl⟩) (lv_sub hl [1, 0, 2, 3] rfl)
          · refine lv_iconst (v := 1) hx hb dX5_hasAhead_26 (by decide) ?_
            refine lv_goto (tgt := 31) hx hb dX5_hasAhead_27 (by decide) ?_
            refine lv_istore_n (lv' := [(2, .int 1), (3, .int (nI d)), (0, .ref (ad 0 0)), (1, .int (nI j))]) hx hb dX5_hasAhead_31 rfl hl (by decide) rfl (fun ls hl => ?_)
            refine lv_iinc (v := nI (d + 1)) (lv' := [(3, .int (nI (d + 1))), (2, .int 1), (0, .ref (ad 0 0)), (1, .int (nI j))]) hx hb dX5_hasAhead_32 hl (k := 1) rfl (nI_1 d) (by decide) rfl (fun ls hl => ?_)
            refine lv_goto (tgt := 4) hx hb dX5_hasAhead_35 (by decide) ?_
            exact ih (d + 1) 1 ls (by omega) (Or.inr ⟨rfl, d, by rw [ho1, (nI_eq (by omega) (by omega)).mp c_23]⟩) (lv_sub hl [1, 0, 2, 3] rfl)
      · refine lv_iload_n hx hb dX5_hasAhead_4 rfl (lv_at hl 1 rfl) ?_
        refine lv_aload_n hx hb dX5_hasAhead_5 rfl (lv_at hl 2 rfl) ?_
        refine fw_get (v := .int (J 0 0)) (C := RX5) (T := TX5) (N := 15) hx hb hts in5 hown hK hP (m_at0 hj) rfl 0 (by decide) (hts (.fieldLink RX5 43 "WagonSidingsModel" "wagons" "I") (by decide +kernel)) (fun _ h9 => h9) rfl dX5_hasAhead_6 ?_
        refine W.eq (g2 := F0 m 9 ls [.int (nI n), .int (nI d)]) (by rw [hR.1]) ?_
        refine lv_icmp_ge (tgt := 38) hx hb dX5_hasAhead_9 (by decide) (fun c9 => absurd c9 (nI_ge (by omega) (by omega))) (fun _ => ?_)
        refine lv_iload_n hx hb dX5_hasAhead_12 rfl (lv_at hl 0 rfl) ?_
        refine lv_if_ne (tgt := 26) hx hb dX5_hasAhead_13 (by decide) (fun _ => ?_) (fun c9 => absurd c9 (by decide))
        refine lv_iconst (v := 1) hx hb dX5_hasAhead_26 (by decide) ?_
        refine lv_goto (tgt := 31) hx hb dX5_hasAhead_27 (by decide) ?_
        refine lv_istore_n (lv' := [(2, .int 1), (3, .int (nI d)), (0, .ref (ad 0 0)), (1, .int (nI j))]) hx hb dX5_hasAhead_31 rfl hl (by decide) rfl (fun ls hl => ?_)
        refine lv_iinc (v := nI (d + 1)) (lv' := [(3, .int (nI (d + 1))), (2, .int 1), (0, .ref (ad 0 0)), (1, .int (nI j))]) hx hb dX5_hasAhead_32 hl (k := 1) rfl (nI_1 d) (by decide) rfl (fun ls hl => ?_)
        refine lv_goto (tgt := 4) hx hb dX5_hasAhead_35 (by decide) ?_
        exact ih (d + 1) 1 ls (by omega) (Or.inr ⟨rfl, hv⟩) (lv_sub hl [1, 0, 2, 3] rfl)
  refine lv_iconst (v := 0) hx hb dX5_hasAhead_0 (by decide) ?_
  refine lv_istore_n (lv' := [(2, .int 0), (0, .ref (ad 0 0)), (1, .int (nI j))]) hx hb dX5_hasAhead_1 rfl hl (by decide) rfl (fun ls hl => ?_)
  refine lv_iconst (v := 0) hx hb dX5_hasAhead_2 (by decide) ?_
  refine lv_istore_n (lv' := [(3, .int 0), (2, .int 0), (0, .ref (ad 0 0)), (1, .int (nI j))]) hx hb dX5_hasAhead_3 rfl hl (by decide) rfl (fun ls hl => ?_)
  exact loop n 0 0 ls (Nat.zero_add n) (Or.inl ⟨rfl, fun x h => absurd h (Nat.not_lt_zero x)⟩) (lv_sub hl [1, 0, 2, 3] rfl)

set_option maxHeartbeats 4000000 in
set_option maxRecDepth 100000 in
theorem c_X5_trackOf (l : Launch) (D : va_G) (kk : Nat → ClassId) (ad : Nat → Nat → Nat) (n : Nat) (I : sI) (O : sO) (J : sI) (hj : sj mV ad) (hY : yI n I O) (hR : mR n I O J) (j : Nat) (hjn : j < n) : fw_Mi l yX5_trackOf wsX5_trackOf { frames := 0, cells := 0, slots := 0, locals := 0 } 0 0 D vwCl (xT kk) (mw kk ad J) [.ref (ad 0 0), .int (nI j)] (fun r w1 => r = I 3 j ∧ w1 = mw kk ad J) := by
  refine fw_ofi (cc := cX5_trackOf) (maxL := 4) (ret := (some .int)) (by decide) rfl (Nat.le_of_ble_eq_true rfl) ?_
  intro p e s m args below meth c A ls hx hb hml hr hlocks hnm hts hown hK hP hD hA hS hl
  have hown : s.vm.findClass RX5 = some m.cls := hown
  have hl : lv_has ls 4 [(0, .ref (ad 0 0)), (1, .int (nI j))] := hl
  have in5 : ∀ w ∈ u_ws RX5 TX5 15, w ∈ wsX5_trackOf := by decide +kernel
  have hn40 := hY.1.1
  have loop : ∀ (f : Nat) (v : Int32) (ls : Array Slot), f ≤ 6 → ((v = -1 ∧ ∀ t, f ≤ t → t < 6 → ¬ O 1 t = some j) ∨ v = I 3 j) → lv_has ls 4 [(2, .int v), (3, .int (nI f - 1)), (0, .ref (ad 0 0)), (1, .int (nI j))] → W p l e { frames := 0, cells := 0, slots := 0, locals := 0 } s m args below meth c s.heap [] 0 0 (MQ below (va_Qi (fun r w1 => r = I 3 j ∧ w1 = mw kk ad J) (fw_B D vwCl (xT kk) A) A) args s 0 0 A) (F0 m 4 ls []) := by
    intro f
    induction f with
    | zero =>
      intro v ls hf6 hv hl
      have e9 : nI 0 - 1 = -1 := by decide
      rw [e9] at hl
      refine lv_iload_n hx hb dX5_trackOf_4 rfl (lv_at hl 1 rfl) ?_
      refine lv_if_lt (tgt := 30) hx hb dX5_trackOf_5 (by decide) (fun _ => ?_) (fun c9 => absurd (by decide) c9)
      refine lv_iload_n hx hb dX5_trackOf_30 rfl (lv_at hl 0 rfl) ?_
      exact fw_iret hx hb hr hlocks hK hP hD hS dX5_trackOf_31 ⟨by rcases hv with ⟨q1, q2⟩ | q; exact Classical.byContradiction (fun z => by obtain ⟨t, q⟩ := hY.2.2.2.2.2.1 j hjn (fun y => z (by rw [q1, y])); exact q2 t (Nat.zero_le t) (hY.2.2.2.2.1 t j q).1 q); exact q, rfl⟩
    | succ f ih =>
      intro v ls hf6 hv hl
      rw [nI_p] at hl
      refine lv_iload_n hx hb dX5_trackOf_4 rfl (lv_at hl 1 rfl) ?_
      refine lv_if_lt (tgt := 30) hx hb dX5_trackOf_5 (by decide) (fun c9 => absurd c9 (nI_pos (by omega))) (fun _ => ?_)
      refine lv_aload_n hx hb dX5_trackOf_8 rfl (lv_at hl 2 rfl) ?_
      refine fw_get (v := .ref (ad 4 0)) (C := RX5) (T := TX5) (N := 15) hx hb hts in5 hown hK hP (m_at0 hj) rfl 4 (by decide) (hts (.fieldLink RX5 19 "WagonSidingsModel" "first" "[I") (by decide +kernel)) (fun _ h9 => h9) rfl dX5_trackOf_9 ?_
      refine lv_iload_n hx hb dX5_trackOf_12 rfl (lv_at hl 1 rfl) ?_
      refine fw_iald hx hb hK hP 0 (m_at4 hj) rfl (vp_in_nI (by omega) (by decide)) dX5_trackOf_13 ?_
      rcases oc (O 1 f) with ho1 | ⟨j2, ho1⟩
      · refine W.eq (g2 := F0 m 14 ls [.int (-1)]) (by rw [nI_clamp (by omega), hR.2.2.2.2.1 _ (by omega), ho1]; rfl) ?_
        refine lv_iload_n hx hb dX5_trackOf_14 rfl (lv_at hl 3 rfl) ?_
        refine lv_icmp_ne (tgt := 22) hx hb dX5_trackOf_15 (by decide) (fun _ => ?_) (fun c9 => absurd c9 (fun z => nI_m1 (by omega) z.symm))
        refine lv_iload_n hx hb dX5_trackOf_22 rfl (lv_at hl 0 rfl) ?_
        refine lv_istore_n (lv' := [(2, .int v), (3, .int (nI f)), (0, .ref (ad 0 0)), (1, .int (nI j))]) hx hb dX5_trackOf_23 rfl hl (by decide) rfl (fun ls hl => ?_)
        refine lv_iinc (v := nI f - 1) (lv' := [(3, .int (nI f - 1)), (2, .int v), (0, .ref (ad 0 0)), (1, .int (nI j))]) hx hb dX5_trackOf_24 hl (k := 1) rfl (by rw [Int32.sub_eq_add_neg]; rfl) (by decide) rfl (fun ls hl => ?_)
        refine lv_goto (tgt := 4) hx hb dX5_trackOf_27 (by decide) ?_
        exact ih v ls (by omega) (hv.imp (fun z => ⟨z.1, fun t h1 h2 q => by rcases Nat.lt_or_ge f t with y | y; exact z.2 t (by omega) h2 q; obtain rfl : t = f := (by omega); rw [ho1] at q; cases q⟩) id) (lv_sub hl [1, 0, 2, 3] rfl)
      · have hj2 := hY.1.2.1 _ _ _ ho1
        refine W.eq (g2 := F0 m 14 ls [.int (nI j2)]) (by rw [nI_clamp (by omega), hR.2.2.2.2.1 _ (by omega), ho1]; rfl) ?_
        refine lv_iload_n hx hb dX5_trackOf_14 rfl (lv_at hl 3 rfl) ?_
        refine lv_icmp_ne (tgt := 22) hx hb dX5_trackOf_15 (by decide) (fun c_15 => ?_) (fun c_15 => ?_)
        · refine lv_iload_n hx hb dX5_trackOf_22 rfl (lv_at hl 0 rfl) ?_
          refine lv_istore_n (lv' := [(2, .int v), (3, .int (nI f)), (0, .ref (ad 0 0)), (1, .int (nI j))]) hx hb dX5_trackOf_23 rfl hl (by decide) rfl (fun ls hl => ?_)
          refine lv_iinc (v := nI f - 1) (lv' := [(3, .int (nI f - 1)), (2, .int v), (0, .ref (ad 0 0)), (1, .int (nI j))]) hx hb dX5_trackOf_24 hl (k := 1) rfl (by rw [Int32.sub_eq_add_neg]; rfl) (by decide) rfl (fun ls hl => ?_)
          refine lv_goto (tgt := 4) hx hb dX5_trackOf_27 (by decide) ?_
          exact ih v ls (by omega) (hv.imp (fun z => ⟨z.1, fun t h1 h2 q => by rcases Nat.lt_or_ge f t with y | y; exact z.2 t (by omega) h2 q; obtain rfl : t = f := (by omega); rw [ho1] at q; cases q; exact c_15 rfl⟩) id) (lv_sub hl [1, 0, 2, 3] rfl)
        · refine lv_iload_n hx hb dX5_trackOf_18 rfl (lv_at hl 1 rfl) ?_
          refine lv_goto (tgt := 23) hx hb dX5_trackOf_19 (by decide) ?_
          refine lv_istore_n (lv' := [(2, .int (nI f)), (3, .int (nI f)), (0, .ref (ad 0 0)), (1, .int (nI j))]) hx hb dX5_trackOf_23 rfl hl (by decide) rfl (fun ls hl => ?_)
          refine lv_iinc (v := nI f - 1) (lv' := [(3, .int (nI f - 1)), (2, .int (nI f)), (0, .ref (ad 0 0)), (1, .int (nI j))]) hx hb dX5_trackOf_24 hl (k := 1) rfl (by rw [Int32.sub_eq_add_neg]; rfl) (by decide) rfl (fun ls hl => ?_)
          refine lv_goto (tgt := 4) hx hb dX5_trackOf_27 (by decide) ?_
          exact ih (nI f) ls (by omega) (Or.inr (by have q := ho1; rw [(nI_eq (by omega) (by omega)).mp c_15] at q; exact ((hY.2.2.2.2.1 f j q).2).symm)) (lv_sub hl [1, 0, 2, 3] rfl)
  refine lv_iconst (v := (-1)) hx hb dX5_trackOf_0 (by decide) ?_
  refine lv_istore_n (lv' := [(2, .int (-1)), (0, .ref (ad 0 0)), (1, .int (nI j))]) hx hb dX5_trackOf_1 rfl hl (by decide) rfl (fun ls hl => ?_)
  refine lv_iconst (v := 5) hx hb dX5_trackOf_2 (by decide) ?_
  refine lv_istore_n (lv' := [(3, .int 5), (2, .int (-1)), (0, .ref (ad 0 0)), (1, .int (nI j))]) hx hb dX5_trackOf_3 rfl hl (by decide) rfl (fun ls hl => ?_)
  exact loop 6 (-1) ls (Nat.le_refl 6) (Or.inl ⟨rfl, fun t h1 h2 => by omega⟩) (lv_sub hl [1, 0, 2, 3] rfl)

noncomputable def nthJ (O : sO) (J : sI) (x k : Nat) : sI := match wk (O 0) x (O 1 k) with
  | none => mtl J 1 (nI (clen (O 0) (O 1 k)))
  | some _ => J
theorem nthJ_none {O : sO} {J : sI} {x k : Nat} (h : wk (O 0) x (O 1 k) = none) : nthJ O J x k = mtl J 1 (nI (clen (O 0) (O 1 k))) := by unfold nthJ; rw [h]
theorem nthJ_some {O : sO} {J : sI} {x k j : Nat} (h : wk (O 0) x (O 1 k) = some j) : nthJ O J x k = J := by unfold nthJ; rw [h]

set_option maxHeartbeats 4000000 in
set_option maxRecDepth 100000 in
theorem c_X5_nth (l : Launch) (D : va_G) (kk : Nat → ClassId) (ad : Nat → Nat → Nat) (n : Nat) (I : sI) (O : sO) (J : sI) (hj : sj mV ad) (hY : yI n I O) (hR : mR n I O J) (k x : Nat) (hk6 : k < 6) (hx40 : x ≤ 40) : fw_Mi l yX5_nth wsX5_nth { frames := 1, cells := 0, slots := 0, locals := 22 } 0 0 D vwCl (xT kk) (mw kk ad J) [.ref (ad 0 0), .int (nI k), .int (nI x)] (fun r w1 => r = num (wk (O 0) x (O 1 k)) ∧ w1 = mw kk ad (nthJ O J x k)) := by
  refine fw_ofi (cc := cX5_nth) (maxL := 5) (ret := (some .int)) (by decide) rfl (Nat.le_of_ble_eq_true rfl) ?_
  intro p e s m args below meth c A ls hx hb hml hr hlocks hnm hts hown hK hP hD hA hS hl
  have hown : s.vm.findClass RX5 = some m.cls := hown
  have hl : lv_has ls 5 [(0, .ref (ad 0 0)), (1, .int (nI k)), (2, .int (nI x))] := hl
  have in5 : ∀ w ∈ u_ws RX5 TX5 15, w ∈ wsX5_nth := by decide +kernel
  have hn40 := hY.1.1
  have loop : ∀ (f d : Nat) (o : Option Nat) (ls : Array Slot), d + f = x → (∀ y, o = some y → y < n) → wk (O 0) f o = wk (O 0) x (O 1 k) → d + clen (O 0) o = clen (O 0) (O 1 k) → lv_has ls 5 [(3, .int (num o)), (4, .int (nI d)), (0, .ref (ad 0 0)), (1, .int (nI k)), (2, .int (nI x))] → W p l e { frames := 1, cells := 0, slots := 0, locals := 22 } s m args below meth c s.heap [] 0 0 (MQ below (va_Qi (fun r w1 => r = num (wk (O 0) x (O 1 k)) ∧ w1 = mw kk ad (nthJ O J x k)) (fw_B D vwCl (xT kk) A) A) args s 0 0 A) (F0 m 10 ls []) := by
    intro f
    induction f with
    | zero =>
      intro d o ls hdf hro hw hc hl
      rcases o with _ | y
      · have hl : lv_has ls 5 [(3, .int (-1)), (4, .int (nI d)), (0, .ref (ad 0 0)), (1, .int (nI k)), (2, .int (nI x))] := hl
        refine lv_iload_n hx hb dX5_nth_10 rfl (lv_at hl 0 rfl) ?_
        refine lv_iconst (v := (-1)) hx hb dX5_nth_11 (by decide) ?_
        refine lv_icmp_eq (tgt := 34) hx hb dX5_nth_12 (by decide) (fun _ => ?_) (fun c9 => absurd rfl c9)
        refine lv_iload_n hx hb dX5_nth_34 rfl (lv_at hl 0 rfl) ?_
        refine lv_iconst (v := (-1)) hx hb dX5_nth_35 (by decide) ?_
        refine lv_icmp_ne (tgt := 47) hx hb dX5_nth_36 (by decide) (fun c9 => absurd rfl c9) (fun _ => ?_)
        refine lv_aload_n hx hb dX5_nth_39 rfl (lv_at hl 2 rfl) ?_
        refine lv_iconst (v := 1) hx hb dX5_nth_40 (by decide) ?_
        refine lv_iload hx hb dX5_nth_41 (lv_at hl 1 rfl) ?_
        refine fw_calli (va_runV (As := [.int 1, .int (nI d)]) (rest := []) ⟨hx, hb, hml, hown, hts⟩ (c_X5_ends l D kk ad J hj 1 (nI d) _) (cwV 2 hts gX5_nth_X5_ends rfl rfl rfl (by decide +kernel) ⟨Nat.le_of_ble_eq_true rfl, Nat.le_of_ble_eq_true rfl⟩) (fw_preV hK hP (ci := 5) rfl (m_at0 hj)) rfl rfl hl.1 rfl (lv_room (Nat.le_of_ble_eq_true rfl)) dX5_nth_43 ⟨Nat.le_of_ble_eq_true rfl, Nat.le_of_ble_eq_true rfl⟩) hD hS hA (fun r w1 H locs hq hP hD hS => ?_)
        obtain ⟨rfl, rfl⟩ := hq
        refine lv_pop hx hb dX5_nth_46 rfl ?_
        refine lv_iload_n hx hb dX5_nth_47 rfl (lv_at hl 0 rfl) ?_
        exact fw_iret hx hb hr hlocks hK hP hD hS dX5_nth_48 ⟨by rw [← hw, wk_none]; rfl, by rw [nthJ_none (by rw [← hw, wk_none]), ← hc, clen_none, Nat.add_zero]⟩
      · have hy0 := hro y rfl
        have hl : lv_has ls 5 [(3, .int (nI y)), (4, .int (nI d)), (0, .ref (ad 0 0)), (1, .int (nI k)), (2, .int (nI x))] := hl
        refine lv_iload_n hx hb dX5_nth_10 rfl (lv_at hl 0 rfl) ?_
        refine lv_iconst (v := (-1)) hx hb dX5_nth_11 (by decide) ?_
        refine lv_icmp_eq (tgt := 34) hx hb dX5_nth_12 (by decide) (fun c9 => absurd c9 (nI_m1 (by omega))) (fun _ => ?_)
        refine lv_iload hx hb dX5_nth_15 (lv_at hl 1 rfl) ?_
        refine lv_iload_n hx hb dX5_nth_17 rfl (lv_at hl 4 rfl) ?_
        refine lv_icmp_ge (tgt := 34) hx hb dX5_nth_18 (by decide) (fun _ => ?_) (fun c9 => absurd (nI_le (by omega) (by omega)) c9)
        refine lv_iload_n hx hb dX5_nth_34 rfl (lv_at hl 0 rfl) ?_
        refine lv_iconst (v := (-1)) hx hb dX5_nth_35 (by decide) ?_
        refine lv_icmp_ne (tgt := 47) hx hb dX5_nth_36 (by decide) (fun _ => ?_) (fun c9 => absurd c9 (nI_m1 (by omega)))
        refine lv_iload_n hx hb dX5_nth_47 rfl (lv_at hl 0 rfl) ?_
        exact fw_iret hx hb hr hlocks hK hP hD hS dX5_nth_48 ⟨by rw [← hw]; rfl, by rw [nthJ_some (j := y) (by rw [← hw]; rfl)]⟩
    | succ f ih =>
      intro d o ls hdf hro hw hc hl
      rcases o with _ | y
      · have hl : lv_has ls 5 [(3, .int (-1)), (4, .int (nI d)), (0, .ref (ad 0 0)), (1, .int (nI k)), (2, .int (nI x))] := hl
        refine lv_iload_n hx hb dX5_nth_10 rfl (lv_at hl 0 rfl) ?_
        refine lv_iconst (v := (-1)) hx hb dX5_nth_11 (by decide) ?_
        refine lv_icmp_eq (tgt := 34) hx hb dX5_nth_12 (by decide) (fun _ => ?_) (fun c9 => absurd rfl c9)
        refine lv_iload_n hx hb dX5_nth_34 rfl (lv_at hl 0 rfl) ?_
        refine lv_iconst (v := (-1)) hx hb dX5_nth_35 (by decide) ?_
        refine lv_icmp_ne (tgt := 47) hx hb dX5_nth_36 (by decide) (fun c9 => absurd rfl c9) (fun _ => ?_)
        refine lv_aload_n hx hb dX5_nth_39 rfl (lv_at hl 2 rfl) ?_
        refine lv_iconst (v := 1) hx hb dX5_nth_40 (by decide) ?_
        refine lv_iload hx hb dX5_nth_41 (lv_at hl 1 rfl) ?_
        refine fw_calli (va_runV (As := [.int 1, .int (nI d)]) (rest := []) ⟨hx, hb, hml, hown, hts⟩ (c_X5_ends l D kk ad J hj 1 (nI d) _) (cwV 2 hts gX5_nth_X5_ends rfl rfl rfl (by decide +kernel) ⟨Nat.le_of_ble_eq_true rfl, Nat.le_of_ble_eq_true rfl⟩) (fw_preV hK hP (ci := 5) rfl (m_at0 hj)) rfl rfl hl.1 rfl (lv_room (Nat.le_of_ble_eq_true rfl)) dX5_nth_43 ⟨Nat.le_of_ble_eq_true rfl, Nat.le_of_ble_eq_true rfl⟩) hD hS hA (fun r w1 H locs hq hP hD hS => ?_)
        obtain ⟨rfl, rfl⟩ := hq
        refine lv_pop hx hb dX5_nth_46 rfl ?_
        refine lv_iload_n hx hb dX5_nth_47 rfl (lv_at hl 0 rfl) ?_
        exact fw_iret hx hb hr hlocks hK hP hD hS dX5_nth_48 ⟨by rw [← hw, wk_none]; rfl, by rw [nthJ_none (by rw [← hw, wk_none]), ← hc, clen_none, Nat.add_zero]⟩
      · have hy0 := hro y rfl
        have hl : lv_has ls 5 [(3, .int (nI y)), (4, .int (nI d)), (0, .ref (ad 0 0)), (1, .int (nI k)), (2, .int (nI x))] := hl
        refine lv_iload_n hx hb dX5_nth_10 rfl (lv_at hl 0 rfl) ?_
        refine lv_iconst (v := (-1)) hx hb dX5_nth_11 (by decide) ?_
        refine lv_icmp_eq (tgt := 34) hx hb dX5_nth_12 (by decide) (fun c9 => absurd c9 (nI_m1 (by omega))) (fun _ => ?_)
        refine lv_iload hx hb dX5_nth_15 (lv_at hl 1 rfl) ?_
        refine lv_iload_n hx hb dX5_nth_17 rfl (lv_at hl 4 rfl) ?_
        refine lv_icmp_ge (tgt := 34) hx hb dX5_nth_18 (by decide) (fun c9 => absurd c9 (nI_ge (by omega) (by omega))) (fun _ => ?_)
        refine lv_aload_n hx hb dX5_nth_21 rfl (lv_at hl 2 rfl) ?_
        refine fw_get (v := .ref (ad 3 0)) (C := RX5) (T := TX5) (N := 15) hx hb hts in5 hown hK hP (m_at0 hj) rfl 3 (by decide) (hts (.fieldLink RX5 16 "WagonSidingsModel" "behind" "[I") (by decide +kernel)) (fun _ h9 => h9) rfl dX5_nth_22 ?_
        refine lv_iload_n hx hb dX5_nth_25 rfl (lv_at hl 0 rfl) ?_
        refine fw_iald hx hb hK hP 0 (m_at3 hj) rfl (vp_in_nI (by omega) (by decide)) dX5_nth_26 ?_
        rcases oc (O 0 y) with ho1 | ⟨j2, ho1⟩
        · refine W.eq (g2 := F0 m 27 ls [.int (-1)]) (by rw [nI_clamp (by omega), hR.2.2.2.1 _ (by omega), ho1]; rfl) ?_
          refine lv_istore_n (lv' := [(3, .int (-1)), (4, .int (nI d)), (0, .ref (ad 0 0)), (1, .int (nI k)), (2, .int (nI x))]) hx hb dX5_nth_27 rfl hl (by decide) rfl (fun ls hl => ?_)
          refine lv_iinc (v := nI (d + 1)) (lv' := [(4, .int (nI (d + 1))), (3, .int (-1)), (0, .ref (ad 0 0)), (1, .int (nI k)), (2, .int (nI x))]) hx hb dX5_nth_28 hl (k := 1) rfl (nI_1 d) (by decide) rfl (fun ls hl => ?_)
          refine lv_goto (tgt := 10) hx hb dX5_nth_31 (by decide) ?_
          exact ih (d + 1) none ls (by omega) (fun y q => by cases q) (by have h9 := hw; rw [wk_some, ho1] at h9; exact h9) (by rw [← hc, clen_some (hY.1.2.2 (some y)), ho1]; omega) (lv_sub hl [1, 0, 2, 3, 4] rfl)
        · have hj2 := hY.1.2.1 _ _ _ ho1
          refine W.eq (g2 := F0 m 27 ls [.int (nI j2)]) (by rw [nI_clamp (by omega), hR.2.2.2.1 _ (by omega), ho1]; rfl) ?_
          refine lv_istore_n (lv' := [(3, .int (nI j2)), (4, .int (nI d)), (0, .ref (ad 0 0)), (1, .int (nI k)), (2, .int (nI x))]) hx hb dX5_nth_27 rfl hl (by decide) rfl (fun ls hl => ?_)
          refine lv_iinc (v := nI (d + 1)) (lv' := [(4, .int (nI (d + 1))), (3, .int (nI j2)), (0, .ref (ad 0 0)), (1, .int (nI k)), (2, .int (nI x))]) hx hb dX5_nth_28 hl (k := 1) rfl (nI_1 d) (by decide) rfl (fun ls hl => ?_)
          refine lv_goto (tgt := 10) hx hb dX5_nth_31 (by decide) ?_
          exact ih (d + 1) (some j2) ls (by omega) (fun y q => by cases q; exact hj2) (by have h9 := hw; rw [wk_some, ho1] at h9; exact h9) (by rw [← hc, clen_some (hY.1.2.2 (some y)), ho1]; omega) (lv_sub hl [1, 0, 2, 3, 4] rfl)
  refine lv_aload_n hx hb dX5_nth_0 rfl (lv_at hl 0 rfl) ?_
  refine fw_get (v := .ref (ad 4 0)) (C := RX5) (T := TX5) (N := 15) hx hb hts in5 hown hK hP (m_at0 hj) rfl 4 (by decide) (hts (.fieldLink RX5 19 "WagonSidingsModel" "first" "[I") (by decide +kernel)) (fun _ h9 => h9) rfl dX5_nth_1 ?_
  refine lv_iload_n hx hb dX5_nth_4 rfl (lv_at hl 1 rfl) ?_
  refine fw_iald hx hb hK hP 0 (m_at4 hj) rfl (vp_in_nI (by omega) (by decide)) dX5_nth_5 ?_
  rcases oc (O 1 k) with ho3 | ⟨j4, ho3⟩
  · refine W.eq (g2 := F0 m 6 ls [.int (-1)]) (by rw [nI_clamp (by omega), hR.2.2.2.2.1 _ (by omega), ho3]; rfl) ?_
    refine lv_istore_n (lv' := [(3, .int (-1)), (0, .ref (ad 0 0)), (1, .int (nI k)), (2, .int (nI x))]) hx hb dX5_nth_6 rfl hl (by decide) rfl (fun ls hl => ?_)
    refine lv_iconst (v := 0) hx hb dX5_nth_7 (by decide) ?_
    refine lv_istore (lv' := [(4, .int 0), (3, .int (-1)), (0, .ref (ad 0 0)), (1, .int (nI k)), (2, .int (nI x))]) hx hb dX5_nth_8 hl (by decide) rfl (fun ls hl => ?_)
    exact loop x 0 none ls (Nat.zero_add x) (fun y q => by cases q) (by rw [ho3]) (by rw [ho3]; exact Nat.zero_add _) (lv_sub hl [1, 0, 2, 3, 4] rfl)
  · have hj4 := hY.1.2.1 _ _ _ ho3
    refine W.eq (g2 := F0 m 6 ls [.int (nI j4)]) (by rw [nI_clamp (by omega), hR.2.2.2.2.1 _ (by omega), ho3]; rfl) ?_
    refine lv_istore_n (lv' := [(3, .int (nI j4)), (0, .ref (ad 0 0)), (1, .int (nI k)), (2, .int (nI x))]) hx hb dX5_nth_6 rfl hl (by decide) rfl (fun ls hl => ?_)
    refine lv_iconst (v := 0) hx hb dX5_nth_7 (by decide) ?_
    refine lv_istore (lv' := [(4, .int 0), (3, .int (nI j4)), (0, .ref (ad 0 0)), (1, .int (nI k)), (2, .int (nI x))]) hx hb dX5_nth_8 hl (by decide) rfl (fun ls hl => ?_)
    exact loop x 0 (some j4) ls (Nat.zero_add x) (fun y q => by cases q; exact hj4) (by rw [ho3]) (by rw [ho3]; exact Nat.zero_add _) (lv_sub hl [1, 0, 2, 3, 4] rfl)

