set_option maxHeartbeats 4000000 in
set_option maxRecDepth 100000 in
theorem c_X4_isAtOrBehind (l : Launch) (D : va_G) (kk : Nat → ClassId) (ad : Nat → Nat → Nat) (n : Nat) (I : sI) (O : sO) (hj : sj (xV n) ad) (hI : xI n O) {i j0 : Nat} (hi : i < n) (hj0 : j0 < n) : fw_Mi l yX4_isAtOrBehind wsX4_isAtOrBehind { frames := 0, cells := 0, slots := 0, locals := 0 } 0 0 D vwCl (xT kk) (xw kk ad n I O) [.ref (ad 5 i), .ref (ad 5 j0)] (fun r w1 => r = pif (cin (O 0) (some j0) i) 1 0 ∧ w1 = xw kk ad n I O) := by
  refine fw_ofi (cc := cX4_isAtOrBehind) (maxL := 3) (ret := (some .boolean)) (by decide) rfl (Nat.le_of_ble_eq_true rfl) ?_
  intro p e s m args below meth c A ls hx hb hml hr hlocks hnm hts hown hK hP hD hA hS hl
  have hown : s.vm.findClass RX4 = some m.cls := hown
  have hl : lv_has ls 3 [(0, .ref (ad 5 i)), (1, .ref (ad 5 j0))] := hl
  have in3 : ∀ w ∈ u_ws RX3 TX3 6, w ∈ wsX4_isAtOrBehind := by decide +kernel
  have loop : ∀ (f : Nat) (o : Option Nat) (ls : Array Slot), wk (O 0) f o = none → (∀ x, o = some x → x < n) → (cin (O 0) (some j0) i ↔ cin (O 0) o i) → lv_has ls 3 [(2, va_rf (o.map (ad 5))), (0, .ref (ad 5 i)), (1, .ref (ad 5 j0))] → W p l e { frames := 0, cells := 0, slots := 0, locals := 0 } s m args below meth c s.heap [] 0 0 (MQ below (va_Qi (fun r w1 => r = pif (cin (O 0) (some j0) i) 1 0 ∧ w1 = xw kk ad n I O) (fw_B D vwCl (xT kk) A) A) args s 0 0 A) (F0 m 2 ls []) := by
    intro f
    induction f with
    | zero =>
      intro o ls ho hro hc hl
      have h0 : o = none := ho
      subst h0
      have hl : lv_has ls 3 [(2, .null), (0, .ref (ad 5 i)), (1, .ref (ad 5 j0))] := hl
      refine lv_aload_nN hx hb dX4_isAtOrBehind_2 rfl (lv_at hl 0 rfl) ?_
      refine lv_ifnullN (tgt := 21) hx hb dX4_isAtOrBehind_3 (by decide) ?_
      refine lv_iconst (v := 0) hx hb dX4_isAtOrBehind_21 (by decide) ?_
      exact fw_zret hx hb hr (by decide) hlocks hK hP hD hS dX4_isAtOrBehind_22 ⟨(pif_f (fun h => cin_none (hc.mp h))).symm, rfl⟩
    | succ f ih =>
      intro o ls ho hro hc hl
      rcases o with _ | x
      · have hl : lv_has ls 3 [(2, .null), (0, .ref (ad 5 i)), (1, .ref (ad 5 j0))] := hl
        refine lv_aload_nN hx hb dX4_isAtOrBehind_2 rfl (lv_at hl 0 rfl) ?_
        refine lv_ifnullN (tgt := 21) hx hb dX4_isAtOrBehind_3 (by decide) ?_
        refine lv_iconst (v := 0) hx hb dX4_isAtOrBehind_21 (by decide) ?_
        exact fw_zret hx hb hr (by decide) hlocks hK hP hD hS dX4_isAtOrBehind_22 ⟨(pif_f (fun h => cin_none (hc.mp h))).symm, rfl⟩
      · have hx0 := hro x rfl
        have hl : lv_has ls 3 [(2, .ref (ad 5 x)), (0, .ref (ad 5 i)), (1, .ref (ad 5 j0))] := hl
        refine lv_aload_n hx hb dX4_isAtOrBehind_2 rfl (lv_at hl 0 rfl) ?_
        refine lv_ifnull hx hb dX4_isAtOrBehind_3 ?_
        refine lv_aload_n hx hb dX4_isAtOrBehind_6 rfl (lv_at hl 0 rfl) ?_
        refine lv_aload_n hx hb dX4_isAtOrBehind_7 rfl (lv_at hl 1 rfl) ?_
        refine W.eq (g2 := F0 m 8 ls [va_rf (some (ad 5 i)), va_rf (some (ad 5 x))]) rfl ?_
        refine lv_acmp_ne (tgt := 13) hx hb dX4_isAtOrBehind_8 (by decide) (fun c_8 => ?_) (fun c_8 => ?_)
        · have hne : ¬ x = i := fun q => c_8 (by rw [q])
          refine lv_aload_n hx hb dX4_isAtOrBehind_13 rfl (lv_at hl 0 rfl) ?_
          rcases oc (O 0 x) with ho1 | ⟨j2, ho1⟩
          · refine fw_get (v := .null) (C := RX3) (T := TX3) (N := 6) hx hb hts in3 hown hK hP (x_at5 hj hx0) rfl 3 (by decide) (hts (.fieldLink RX4 51 "WagonSidings$Wagon" "behind" "LWagonSidings$Wagon;") (by decide +kernel)) (fun _ h9 => h9) (by rw [ho1]; rfl) dX4_isAtOrBehind_14 ?_
            refine lv_astore_nN (lv' := [(2, .null), (0, .ref (ad 5 i)), (1, .ref (ad 5 j0))]) hx hb dX4_isAtOrBehind_17 rfl hl (by decide) rfl (fun ls hl => ?_)
            refine lv_goto (tgt := 2) hx hb dX4_isAtOrBehind_18 (by decide) ?_
            exact ih none ls (by have h9 := ho; rw [wk_some, ho1] at h9; exact h9) (fun x q => by cases q) (by have h9 := hc.trans (cin_some.trans (or_iff_right hne)); rw [ho1] at h9; exact h9) (lv_sub hl [0, 1, 2] rfl)
          · have hj2 := (hI.2.1 _ _ _ ho1)
            refine fw_get (v := .ref (ad 5 j2)) (C := RX3) (T := TX3) (N := 6) hx hb hts in3 hown hK hP (x_at5 hj hx0) rfl 3 (by decide) (hts (.fieldLink RX4 51 "WagonSidings$Wagon" "behind" "LWagonSidings$Wagon;") (by decide +kernel)) (fun _ h9 => h9) (by rw [ho1]; rfl) dX4_isAtOrBehind_14 ?_
            refine lv_astore_n (lv' := [(2, .ref (ad 5 j2)), (0, .ref (ad 5 i)), (1, .ref (ad 5 j0))]) hx hb dX4_isAtOrBehind_17 rfl hl (by decide) rfl (fun ls hl => ?_)
            refine lv_goto (tgt := 2) hx hb dX4_isAtOrBehind_18 (by decide) ?_
            exact ih (some j2) ls (by have h9 := ho; rw [wk_some, ho1] at h9; exact h9) (fun x q => by cases q; exact hj2) (by have h9 := hc.trans (cin_some.trans (or_iff_right hne)); rw [ho1] at h9; exact h9) (lv_sub hl [0, 1, 2] rfl)
        · have heq : x = i := (hj 5 x 5 i hx0 hi (Option.some.inj c_8)).2
          refine lv_iconst (v := 1) hx hb dX4_isAtOrBehind_11 (by decide) ?_
          exact fw_zret hx hb hr (by decide) hlocks hK hP hD hS dX4_isAtOrBehind_12 ⟨(pif_t (hc.mpr (cin_some.mpr (Or.inl heq)))).symm, rfl⟩
  refine lv_aload_n hx hb dX4_isAtOrBehind_0 rfl (lv_at hl 1 rfl) ?_
  refine lv_astore_n (lv' := [(2, .ref (ad 5 j0)), (0, .ref (ad 5 i)), (1, .ref (ad 5 j0))]) hx hb dX4_isAtOrBehind_1 rfl hl (by decide) rfl (fun ls hl => ?_)
  obtain ⟨f0, hf0⟩ := hI.2.2 (some j0)
  exact loop f0 (some j0) ls hf0 (fun x q => by cases q; exact hj0) Iff.rfl (lv_sub hl [0, 1, 2] rfl)

set_option maxHeartbeats 4000000 in
set_option maxRecDepth 100000 in
theorem c_X4_pullOf (l : Launch) (D : va_G) (kk : Nat → ClassId) (ad : Nat → Nat → Nat) (n : Nat) (I : sI) (O : sO) (hj : sj (xV n) ad) (hI : xI n O) {i : Nat} (hi : i < n) : fw_Mi l yX4_pullOf wsX4_pullOf { frames := 0, cells := 0, slots := 0, locals := 0 } 0 0 D vwCl (xT kk) (xw kk ad n I O) [.ref (ad 5 i)] (fun r w1 => r = pull I O i ∧ w1 = xw kk ad n I O) := by
  refine fw_ofi (cc := cX4_pullOf) (maxL := 3) (ret := (some .int)) (by decide) rfl (Nat.le_of_ble_eq_true rfl) ?_
  intro p e s m args below meth c A ls hx hb hml hr hlocks hnm hts hown hK hP hD hA hS hl
  have hown : s.vm.findClass RX4 = some m.cls := hown
  have hl : lv_has ls 3 [(0, .ref (ad 5 i))] := hl
  have in3 : ∀ w ∈ u_ws RX3 TX3 6, w ∈ wsX4_pullOf := by decide +kernel
  have loop : ∀ (f : Nat) (o : Option Nat) (acc : Int32) (ls : Array Slot), wk (O 0) f o = none → (∀ x, o = some x → x < n) → (acc + csum (O 0) (I 1) o = csum (O 0) (I 1) (O 0 i)) → lv_has ls 3 [(2, va_rf (o.map (ad 5))), (1, .int acc), (0, .ref (ad 5 i))] → W p l e { frames := 0, cells := 0, slots := 0, locals := 0 } s m args below meth c s.heap [] 0 0 (MQ below (va_Qi (fun r w1 => r = pull I O i ∧ w1 = xw kk ad n I O) (fw_B D vwCl (xT kk) A) A) args s 0 0 A) (F0 m 7 ls []) := by
    intro f
    induction f with
    | zero =>
      intro o acc ls ho hro hs hl
      have h0 : o = none := ho
      subst h0
      have hl : lv_has ls 3 [(2, .null), (1, .int acc), (0, .ref (ad 5 i))] := hl
      refine lv_aload_nN hx hb dX4_pullOf_7 rfl (lv_at hl 0 rfl) ?_
      refine lv_ifnullN (tgt := 26) hx hb dX4_pullOf_8 (by decide) ?_
      refine lv_aload_n hx hb dX4_pullOf_26 rfl (lv_at hl 2 rfl) ?_
      refine fw_get (v := .int (I 0 i)) (C := RX3) (T := TX3) (N := 6) hx hb hts in3 hown hK hP (x_at5 hj hi) rfl 1 (by decide) (hts (.fieldLink RX4 97 "WagonSidings$Wagon" "kind" "I") (by decide +kernel)) (fun _ h9 => h9) rfl dX4_pullOf_27 ?_
      refine lv_iconst (v := 4) hx hb dX4_pullOf_30 (by decide) ?_
      refine lv_icmp_ne (tgt := 43) hx hb dX4_pullOf_31 (by decide) (fun c_31 => ?_) (fun c_31 => ?_)
      · refine lv_iload_n hx hb dX4_pullOf_43 rfl (lv_at hl 1 rfl) ?_
        exact fw_iret hx hb hr hlocks hK hP hD hS dX4_pullOf_44 ⟨by rw [pull, if_neg c_31, ← hs, csum_none, Int32.add_zero], rfl⟩
      · refine lv_iload_n hx hb dX4_pullOf_34 rfl (lv_at hl 1 rfl) ?_
        refine lv_aload_n hx hb dX4_pullOf_35 rfl (lv_at hl 2 rfl) ?_
        refine fw_get (v := .int (I 1 i)) (C := RX3) (T := TX3) (N := 6) hx hb hts in3 hown hK hP (x_at5 hj hi) rfl 2 (by decide) (hts (.fieldLink RX4 91 "WagonSidings$Wagon" "cargo" "I") (by decide +kernel)) (fun _ h9 => h9) rfl dX4_pullOf_36 ?_
        refine lv_isub hx hb dX4_pullOf_39 ?_
        refine lv_goto (tgt := 44) hx hb dX4_pullOf_40 (by decide) ?_
        exact fw_iret hx hb hr hlocks hK hP hD hS dX4_pullOf_44 ⟨by rw [pull, if_pos c_31, ← hs, csum_none, Int32.add_zero], rfl⟩
    | succ f ih =>
      intro o acc ls ho hro hs hl
      rcases o with _ | x
      · have hl : lv_has ls 3 [(2, .null), (1, .int acc), (0, .ref (ad 5 i))] := hl
        refine lv_aload_nN hx hb dX4_pullOf_7 rfl (lv_at hl 0 rfl) ?_
        refine lv_ifnullN (tgt := 26) hx hb dX4_pullOf_8 (by decide) ?_
        refine lv_aload_n hx hb dX4_pullOf_26 rfl (lv_at hl 2 rfl) ?_
        refine fw_get (v := .int (I 0 i)) (C := RX3) (T := TX3) (N := 6) hx hb hts in3 hown hK hP (x_at5 hj hi) rfl 1 (by decide) (hts (.fieldLink RX4 97 "WagonSidings$Wagon" "kind" "I") (by decide +kernel)) (fun _ h9 => h9) rfl dX4_pullOf_27 ?_
        refine lv_iconst (v := 4) hx hb dX4_pullOf_30 (by decide) ?_
        refine lv_icmp_ne (tgt := 43) hx hb dX4_pullOf_31 (by decide) (fun c_31 => ?_) (fun c_31 => ?_)
        · refine lv_iload_n hx hb dX4_pullOf_43 rfl (lv_at hl 1 rfl) ?_
          exact fw_iret hx hb hr hlocks hK hP hD hS dX4_pullOf_44 ⟨by rw [pull, if_neg c_31, ← hs, csum_none, Int32.add_zero], rfl⟩
        · refine lv_iload_n hx hb dX4_pullOf_34 rfl (lv_at hl 1 rfl) ?_
          refine lv_aload_n hx hb dX4_pullOf_35 rfl (lv_at hl 2 rfl) ?_
          refine fw_get (v := .int (I 1 i)) (C := RX3) (T := TX3) (N := 6) hx hb hts in3 hown hK hP (x_at5 hj hi) rfl 2 (by decide) (hts (.fieldLink RX4 91 "WagonSidings$Wagon" "cargo" "I") (by decide +kernel)) (fun _ h9 => h9) rfl dX4_pullOf_36 ?_
          refine lv_isub hx hb dX4_pullOf_39 ?_
          refine lv_goto (tgt := 44) hx hb dX4_pullOf_40 (by decide) ?_
          exact fw_iret hx hb hr hlocks hK hP hD hS dX4_pullOf_44 ⟨by rw [pull, if_pos c_31, ← hs, csum_none, Int32.add_zero], rfl⟩
      · have hx0 := hro x rfl
        have hl : lv_has ls 3 [(2, .ref (ad 5 x)), (1, .int acc), (0, .ref (ad 5 i))] := hl
        refine lv_aload_n hx hb dX4_pullOf_7 rfl (lv_at hl 0 rfl) ?_
        refine lv_ifnull hx hb dX4_pullOf_8 ?_
        refine lv_iload_n hx hb dX4_pullOf_11 rfl (lv_at hl 1 rfl) ?_
        refine lv_aload_n hx hb dX4_pullOf_12 rfl (lv_at hl 0 rfl) ?_
        refine fw_get (v := .int (I 1 x)) (C := RX3) (T := TX3) (N := 6) hx hb hts in3 hown hK hP (x_at5 hj hx0) rfl 2 (by decide) (hts (.fieldLink RX4 91 "WagonSidings$Wagon" "cargo" "I") (by decide +kernel)) (fun _ h9 => h9) rfl dX4_pullOf_13 ?_
        refine lv_iadd hx hb dX4_pullOf_16 ?_
        refine lv_istore_n (lv' := [(1, .int (acc + (I 1 x))), (2, .ref (ad 5 x)), (0, .ref (ad 5 i))]) hx hb dX4_pullOf_17 rfl hl (by decide) rfl (fun ls hl => ?_)
        refine lv_aload_n hx hb dX4_pullOf_18 rfl (lv_at hl 1 rfl) ?_
        rcases oc (O 0 x) with ho1 | ⟨j2, ho1⟩
        · refine fw_get (v := .null) (C := RX3) (T := TX3) (N := 6) hx hb hts in3 hown hK hP (x_at5 hj hx0) rfl 3 (by decide) (hts (.fieldLink RX4 51 "WagonSidings$Wagon" "behind" "LWagonSidings$Wagon;") (by decide +kernel)) (fun _ h9 => h9) (by rw [ho1]; rfl) dX4_pullOf_19 ?_
          refine lv_astore_nN (lv' := [(2, .null), (1, .int (acc + (I 1 x))), (0, .ref (ad 5 i))]) hx hb dX4_pullOf_22 rfl hl (by decide) rfl (fun ls hl => ?_)
          refine lv_goto (tgt := 7) hx hb dX4_pullOf_23 (by decide) ?_
          exact ih none (acc + I 1 x) ls (by have h9 := ho; rw [wk_some, ho1] at h9; exact h9) (fun x q => by cases q) (by rw [Int32.add_assoc, ← ho1, ← csum_some (I 1) (hI.2.2 (some x))]; exact hs) (lv_sub hl [0, 1, 2] rfl)
        · have hj2 := (hI.2.1 _ _ _ ho1)
          refine fw_get (v := .ref (ad 5 j2)) (C := RX3) (T := TX3) (N := 6) hx hb hts in3 hown hK hP (x_at5 hj hx0) rfl 3 (by decide) (hts (.fieldLink RX4 51 "WagonSidings$Wagon" "behind" "LWagonSidings$Wagon;") (by decide +kernel)) (fun _ h9 => h9) (by rw [ho1]; rfl) dX4_pullOf_19 ?_
          refine lv_astore_n (lv' := [(2, .ref (ad 5 j2)), (1, .int (acc + (I 1 x))), (0, .ref (ad 5 i))]) hx hb dX4_pullOf_22 rfl hl (by decide) rfl (fun ls hl => ?_)
          refine lv_goto (tgt := 7) hx hb dX4_pullOf_23 (by decide) ?_
          exact ih (some j2) (acc + I 1 x) ls (by have h9 := ho; rw [wk_some, ho1] at h9; exact h9) (fun x q => by cases q; exact hj2) (by rw [Int32.add_assoc, ← ho1, ← csum_some (I 1) (hI.2.2 (some x))]; exact hs) (lv_sub hl [0, 1, 2] rfl)
  refine lv_iconst (v := 0) hx hb dX4_pullOf_0 (by decide) ?_
  refine lv_istore_n (lv' := [(1, .int 0), (0, .ref (ad 5 i))]) hx hb dX4_pullOf_1 rfl hl (by decide) rfl (fun ls hl => ?_)
  refine lv_aload_n hx hb dX4_pullOf_2 rfl (lv_at hl 1 rfl) ?_
  rcases oc (O 0 i) with ho3 | ⟨j4, ho3⟩
  · refine fw_get (v := .null) (C := RX3) (T := TX3) (N := 6) hx hb hts in3 hown hK hP (x_at5 hj hi) rfl 3 (by decide) (hts (.fieldLink RX4 51 "WagonSidings$Wagon" "behind" "LWagonSidings$Wagon;") (by decide +kernel)) (fun _ h9 => h9) (by rw [ho3]; rfl) dX4_pullOf_3 ?_
    refine lv_astore_nN (lv' := [(2, .null), (1, .int 0), (0, .ref (ad 5 i))]) hx hb dX4_pullOf_6 rfl hl (by decide) rfl (fun ls hl => ?_)
    obtain ⟨f0, hf0⟩ := hI.2.2 none
    exact loop f0 none 0 ls hf0 (fun x q => by cases q) (by rw [ho3]; exact Int32.zero_add _) (lv_sub hl [0, 1, 2] rfl)
  · have hj4 := (hI.2.1 _ _ _ ho3)
    refine fw_get (v := .ref (ad 5 j4)) (C := RX3) (T := TX3) (N := 6) hx hb hts in3 hown hK hP (x_at5 hj hi) rfl 3 (by decide) (hts (.fieldLink RX4 51 "WagonSidings$Wagon" "behind" "LWagonSidings$Wagon;") (by decide +kernel)) (fun _ h9 => h9) (by rw [ho3]; rfl) dX4_pullOf_3 ?_
    refine lv_astore_n (lv' := [(2, .ref (ad 5 j4)), (1, .int 0), (0, .ref (ad 5 i))]) hx hb dX4_pullOf_6 rfl hl (by decide) rfl (fun ls hl => ?_)
    obtain ⟨f0, hf0⟩ := hI.2.2 (some j4)
    exact loop f0 (some j4) 0 ls hf0 (fun x q => by cases q; exact hj4) (by rw [ho3]; exact Int32.zero_add _) (lv_sub hl [0, 1, 2] rfl)

set_option maxHeartbeats 4000000 in
set_option maxRecDepth 100000 in
theorem c_X2_length (l : Launch) (D : va_G) (kk : Nat → ClassId) (ad : Nat → Nat → Nat) (n : Nat) (I : sI) (O : sO) (hj : sj (xV n) ad) (hI : xI n O) {t : Nat} (ht : t < 6) : fw_Mi l yX2_length wsX2_length { frames := 0, cells := 0, slots := 0, locals := 0 } 0 0 D vwCl (xT kk) (xw kk ad n I O) [.ref (ad 6 t)] (fun r w1 => r = nI (clen (O 0) (O 1 t)) ∧ w1 = xw kk ad n I O) := by
  refine fw_ofi (cc := cX2_length) (maxL := 3) (ret := (some .int)) (by decide) rfl (Nat.le_of_ble_eq_true rfl) ?_
  intro p e s m args below meth c A ls hx hb hml hr hlocks hnm hts hown hK hP hD hA hS hl
  have hown : s.vm.findClass RX2 = some m.cls := hown
  have hl : lv_has ls 3 [(0, .ref (ad 6 t))] := hl
  have in2 : ∀ w ∈ u_ws RX2 TX2 2, w ∈ wsX2_length := by decide +kernel
  have in3 : ∀ w ∈ u_ws RX3 TX3 6, w ∈ wsX2_length := by decide +kernel
  have loop : ∀ (f : Nat) (o : Option Nat) (d : Nat) (ls : Array Slot), wk (O 0) f o = none → (∀ x, o = some x → x < n) → (d + clen (O 0) o = clen (O 0) (O 1 t)) → lv_has ls 3 [(2, va_rf (o.map (ad 5))), (1, .int (nI d)), (0, .ref (ad 6 t))] → W p l e { frames := 0, cells := 0, slots := 0, locals := 0 } s m args below meth c s.heap [] 0 0 (MQ below (va_Qi (fun r w1 => r = nI (clen (O 0) (O 1 t)) ∧ w1 = xw kk ad n I O) (fw_B D vwCl (xT kk) A) A) args s 0 0 A) (F0 m 7 ls []) := by
    intro f
    induction f with
    | zero =>
      intro o d ls ho hro hd hl
      have h0 : o = none := ho
      subst h0
      have hl : lv_has ls 3 [(2, .null), (1, .int (nI d)), (0, .ref (ad 6 t))] := hl
      refine lv_aload_nN hx hb dX2_length_7 rfl (lv_at hl 0 rfl) ?_
      refine lv_ifnullN (tgt := 22) hx hb dX2_length_8 (by decide) ?_
      refine lv_iload_n hx hb dX2_length_22 rfl (lv_at hl 1 rfl) ?_
      exact fw_iret hx hb hr hlocks hK hP hD hS dX2_length_23 ⟨by rw [← hd, clen_none, Nat.add_zero], rfl⟩
    | succ f ih =>
      intro o d ls ho hro hd hl
      rcases o with _ | x
      · have hl : lv_has ls 3 [(2, .null), (1, .int (nI d)), (0, .ref (ad 6 t))] := hl
        refine lv_aload_nN hx hb dX2_length_7 rfl (lv_at hl 0 rfl) ?_
        refine lv_ifnullN (tgt := 22) hx hb dX2_length_8 (by decide) ?_
        refine lv_iload_n hx hb dX2_length_22 rfl (lv_at hl 1 rfl) ?_
        exact fw_iret hx hb hr hlocks hK hP hD hS dX2_length_23 ⟨by rw [← hd, clen_none, Nat.add_zero], rfl⟩
      · have hx0 := hro x rfl
        have hl : lv_has ls 3 [(2, .ref (ad 5 x)), (1, .int (nI d)), (0, .ref (ad 6 t))] := hl
        refine lv_aload_n hx hb dX2_length_7 rfl (lv_at hl 0 rfl) ?_
        refine lv_ifnull hx hb dX2_length_8 ?_
        refine lv_iinc (v := nI (d + 1)) (lv' := [(1, .int (nI (d + 1))), (2, .ref (ad 5 x)), (0, .ref (ad 6 t))]) hx hb dX2_length_11 hl (k := 1) rfl (nI_1 d) (by decide) rfl (fun ls hl => ?_)
        refine lv_aload_n hx hb dX2_length_14 rfl (lv_at hl 1 rfl) ?_
        rcases oc (O 0 x) with ho1 | ⟨j2, ho1⟩
        · refine fw_get (v := .null) (C := RX3) (T := TX3) (N := 6) hx hb hts in3 hown hK hP (x_at5 hj hx0) rfl 3 (by decide) (hts (.fieldLink RX2 19 "WagonSidings$Wagon" "behind" "LWagonSidings$Wagon;") (by decide +kernel)) (fun _ h9 => h9) (by rw [ho1]; rfl) dX2_length_15 ?_
          refine lv_astore_nN (lv' := [(2, .null), (1, .int (nI (d + 1))), (0, .ref (ad 6 t))]) hx hb dX2_length_18 rfl hl (by decide) rfl (fun ls hl => ?_)
          refine lv_goto (tgt := 7) hx hb dX2_length_19 (by decide) ?_
          exact ih none (d + 1) ls (by have h9 := ho; rw [wk_some, ho1] at h9; exact h9) (fun x q => by cases q) (by rw [← ho1, ← hd, clen_some (hI.2.2 (some x))]; omega) (lv_sub hl [0, 1, 2] rfl)
        · have hj2 := (hI.2.1 _ _ _ ho1)
          refine fw_get (v := .ref (ad 5 j2)) (C := RX3) (T := TX3) (N := 6) hx hb hts in3 hown hK hP (x_at5 hj hx0) rfl 3 (by decide) (hts (.fieldLink RX2 19 "WagonSidings$Wagon" "behind" "LWagonSidings$Wagon;") (by decide +kernel)) (fun _ h9 => h9) (by rw [ho1]; rfl) dX2_length_15 ?_
          refine lv_astore_n (lv' := [(2, .ref (ad 5 j2)), (1, .int (nI (d + 1))), (0, .ref (ad 6 t))]) hx hb dX2_length_18 rfl hl (by decide) rfl (fun ls hl => ?_)
          refine lv_goto (tgt := 7) hx hb dX2_length_19 (by decide) ?_
          exact ih (some j2) (d + 1) ls (by have h9 := ho; rw [wk_some, ho1] at h9; exact h9) (fun x q => by cases q; exact hj2) (by rw [← ho1, ← hd, clen_some (hI.2.2 (some x))]; omega) (lv_sub hl [0, 1, 2] rfl)
  refine lv_iconst (v := 0) hx hb dX2_length_0 (by decide) ?_
  refine lv_istore_n (lv' := [(1, .int 0), (0, .ref (ad 6 t))]) hx hb dX2_length_1 rfl hl (by decide) rfl (fun ls hl => ?_)
  refine lv_aload_n hx hb dX2_length_2 rfl (lv_at hl 1 rfl) ?_
  rcases oc (O 1 t) with ho3 | ⟨j4, ho3⟩
  · refine fw_get (v := .null) (C := RX2) (T := TX2) (N := 2) hx hb hts in2 hown hK hP (x_at6 hj ht) rfl 0 (by decide) (hts (.fieldLink RX2 15 "WagonSidings$Track" "first" "LWagonSidings$Wagon;") (by decide +kernel)) (fun _ h9 => h9) (by rw [ho3]; rfl) dX2_length_3 ?_
    refine lv_astore_nN (lv' := [(2, .null), (1, .int 0), (0, .ref (ad 6 t))]) hx hb dX2_length_6 rfl hl (by decide) rfl (fun ls hl => ?_)
    obtain ⟨f0, hf0⟩ := hI.2.2 none
    exact loop f0 none 0 ls hf0 (fun x q => by cases q) (by rw [ho3]; exact Nat.zero_add _) (lv_sub hl [0, 1, 2] rfl)
  · have hj4 := (hI.2.1 _ _ _ ho3)
    refine fw_get (v := .ref (ad 5 j4)) (C := RX2) (T := TX2) (N := 2) hx hb hts in2 hown hK hP (x_at6 hj ht) rfl 0 (by decide) (hts (.fieldLink RX2 15 "WagonSidings$Track" "first" "LWagonSidings$Wagon;") (by decide +kernel)) (fun _ h9 => h9) (by rw [ho3]; rfl) dX2_length_3 ?_
    refine lv_astore_n (lv' := [(2, .ref (ad 5 j4)), (1, .int 0), (0, .ref (ad 6 t))]) hx hb dX2_length_6 rfl hl (by decide) rfl (fun ls hl => ?_)
    obtain ⟨f0, hf0⟩ := hI.2.2 (some j4)
    exact loop f0 (some j4) 0 ls hf0 (fun x q => by cases q; exact hj4) (by rw [ho3]; exact Nat.zero_add _) (lv_sub hl [0, 1, 2] rfl)

set_option maxHeartbeats 4000000 in
set_option maxRecDepth 100000 in
theorem c_X2_nth0 (l : Launch) (D : va_G) (kk : Nat → ClassId) (ad : Nat → Nat → Nat) (n : Nat) (I : sI) (O : sO) (hj : sj (xV n) ad) (hI : xI n O) {t : Nat} (ht : t < 6) (k : Nat) (hk : k ≤ 40) : fw_Mq l yX2_nth wsX2_nth { frames := 0, cells := 0, slots := 0, locals := 0 } 0 0 D vwCl (xT kk) (xw kk ad n I O) [.ref (ad 6 t), .int (nI k)] (fun r w1 => r = (wk (O 0) (nI k).toNatClampNeg (O 1 t)).map (ad 5) ∧ w1 = xw kk ad n I O) := by
  refine fw_ofq (cc := cX2_nth) (maxL := 4) (ret := (some (.object "WagonSidings$Wagon"))) (by decide) rfl (Nat.le_of_ble_eq_true rfl) ?_
  intro p e s m args below meth c A ls hx hb hml hr hlocks hnm hts hown hK hP hD hA hS hl
  have hown : s.vm.findClass RX2 = some m.cls := hown
  have hl : lv_has ls 4 [(0, .ref (ad 6 t)), (1, .int (nI k))] := hl
  have in2 : ∀ w ∈ u_ws RX2 TX2 2, w ∈ wsX2_nth := by decide +kernel
  have in3 : ∀ w ∈ u_ws RX3 TX3 6, w ∈ wsX2_nth := by decide +kernel
  have loop : ∀ (f d : Nat) (o : Option Nat) (ls : Array Slot), d + f = k → (∀ x, o = some x → x < n) → wk (O 0) f o = wk (O 0) k (O 1 t) → lv_has ls 4 [(2, va_rf (o.map (ad 5))), (3, .int (nI d)), (0, .ref (ad 6 t)), (1, .int (nI k))] → W p l e { frames := 0, cells := 0, slots := 0, locals := 0 } s m args below meth c s.heap [] 0 0 (MQ below (va_Qq (fun r w1 => r = (wk (O 0) (nI k).toNatClampNeg (O 1 t)).map (ad 5) ∧ w1 = xw kk ad n I O) (fw_B D vwCl (xT kk) A) A) args s 0 0 A) (F0 m 7 ls []) := by
    intro f
    induction f with
    | zero =>
      intro d o ls hdf hro hw hl
      rcases o with _ | x
      · have hl : lv_has ls 4 [(2, .null), (3, .int (nI d)), (0, .ref (ad 6 t)), (1, .int (nI k))] := hl
        refine lv_iload_n hx hb dX2_nth_7 rfl (lv_at hl 1 rfl) ?_
        refine lv_iload_n hx hb dX2_nth_8 rfl (lv_at hl 3 rfl) ?_
        refine lv_icmp_ge (tgt := 27) hx hb dX2_nth_9 (by decide) (fun _ => ?_) (fun c9 => absurd (nI_le (by omega) (by omega)) c9)
        refine lv_aload_nN hx hb dX2_nth_27 rfl (lv_at hl 0 rfl) ?_
        exact fw_aret (r := none) hx hb hr hlocks hK hP hD hS dX2_nth_28 ⟨by rw [nI_clamp (by omega), ← hw]; rfl, rfl⟩
      · have hx0 := hro x rfl
        have hl : lv_has ls 4 [(2, .ref (ad 5 x)), (3, .int (nI d)), (0, .ref (ad 6 t)), (1, .int (nI k))] := hl
        refine lv_iload_n hx hb dX2_nth_7 rfl (lv_at hl 1 rfl) ?_
        refine lv_iload_n hx hb dX2_nth_8 rfl (lv_at hl 3 rfl) ?_
        refine lv_icmp_ge (tgt := 27) hx hb dX2_nth_9 (by decide) (fun _ => ?_) (fun c9 => absurd (nI_le (by omega) (by omega)) c9)
        refine lv_aload_n hx hb dX2_nth_27 rfl (lv_at hl 0 rfl) ?_
        exact fw_aret (r := (some (ad 5 x))) hx hb hr hlocks hK hP hD hS dX2_nth_28 ⟨by rw [nI_clamp (by omega), ← hw]; rfl, rfl⟩
    | succ f ih =>
      intro d o ls hdf hro hw hl
      rcases o with _ | x
      · have hl : lv_has ls 4 [(2, .null), (3, .int (nI d)), (0, .ref (ad 6 t)), (1, .int (nI k))] := hl
        refine lv_iload_n hx hb dX2_nth_7 rfl (lv_at hl 1 rfl) ?_
        refine lv_iload_n hx hb dX2_nth_8 rfl (lv_at hl 3 rfl) ?_
        refine lv_icmp_ge (tgt := 27) hx hb dX2_nth_9 (by decide) (fun c9 => absurd c9 (nI_ge (by omega) (by omega))) (fun _ => ?_)
        refine lv_aload_nN hx hb dX2_nth_12 rfl (lv_at hl 0 rfl) ?_
        refine lv_ifnullN (tgt := 27) hx hb dX2_nth_13 (by decide) ?_
        refine lv_aload_nN hx hb dX2_nth_27 rfl (lv_at hl 0 rfl) ?_
        exact fw_aret (r := none) hx hb hr hlocks hK hP hD hS dX2_nth_28 ⟨by rw [nI_clamp (by omega), ← hw, wk_none]; rfl, rfl⟩
      · have hx0 := hro x rfl
        have hl : lv_has ls 4 [(2, .ref (ad 5 x)), (3, .int (nI d)), (0, .ref (ad 6 t)), (1, .int (nI k))] := hl
        refine lv_iload_n hx hb dX2_nth_7 rfl (lv_at hl 1 rfl) ?_
        refine lv_iload_n hx hb dX2_nth_8 rfl (lv_at hl 3 rfl) ?_
        refine lv_icmp_ge (tgt := 27) hx hb dX2_nth_9 (by decide) (fun c9 => absurd c9 (nI_ge (by omega) (by omega))) (fun _ => ?_)
        refine lv_aload_n hx hb dX2_nth_12 rfl (lv_at hl 0 rfl) ?_
        refine lv_ifnull hx hb dX2_nth_13 ?_
        refine lv_aload_n hx hb dX2_nth_16 rfl (lv_at hl 0 rfl) ?_
        rcases oc (O 0 x) with ho1 | ⟨j2, ho1⟩
        · refine fw_get (v := .null) (C := RX3) (T := TX3) (N := 6) hx hb hts in3 hown hK hP (x_at5 hj hx0) rfl 3 (by decide) (hts (.fieldLink RX2 19 "WagonSidings$Wagon" "behind" "LWagonSidings$Wagon;") (by decide +kernel)) (fun _ h9 => h9) (by rw [ho1]; rfl) dX2_nth_17 ?_
          refine lv_astore_nN (lv' := [(2, .null), (3, .int (nI d)), (0, .ref (ad 6 t)), (1, .int (nI k))]) hx hb dX2_nth_20 rfl hl (by decide) rfl (fun ls hl => ?_)
          refine lv_iinc (v := nI (d + 1)) (lv' := [(3, .int (nI (d + 1))), (2, .null), (0, .ref (ad 6 t)), (1, .int (nI k))]) hx hb dX2_nth_21 hl (k := 1) rfl (nI_1 d) (by decide) rfl (fun ls hl => ?_)
          refine lv_goto (tgt := 7) hx hb dX2_nth_24 (by decide) ?_
          exact ih (d + 1) none ls (by omega) (fun x q => by cases q) (by have h9 := hw; rw [wk_some, ho1] at h9; exact h9) (lv_sub hl [1, 0, 2, 3] rfl)
        · have hj2 := (hI.2.1 _ _ _ ho1)
          refine fw_get (v := .ref (ad 5 j2)) (C := RX3) (T := TX3) (N := 6) hx hb hts in3 hown hK hP (x_at5 hj hx0) rfl 3 (by decide) (hts (.fieldLink RX2 19 "WagonSidings$Wagon" "behind" "LWagonSidings$Wagon;") (by decide +kernel)) (fun _ h9 => h9) (by rw [ho1]; rfl) dX2_nth_17 ?_
          refine lv_astore_n (lv' := [(2, .ref (ad 5 j2)), (3, .int (nI d)), (0, .ref (ad 6 t)), (1, .int (nI k))]) hx hb dX2_nth_20 rfl hl (by decide) rfl (fun ls hl => ?_)
          refine lv_iinc (v := nI (d + 1)) (lv' := [(3, .int (nI (d + 1))), (2, .ref (ad 5 j2)), (0, .ref (ad 6 t)), (1, .int (nI k))]) hx hb dX2_nth_21 hl (k := 1) rfl (nI_1 d) (by decide) rfl (fun ls hl => ?_)
          refine lv_goto (tgt := 7) hx hb dX2_nth_24 (by decide) ?_
          exact ih (d + 1) (some j2) ls (by omega) (fun x q => by cases q; exact hj2) (by have h9 := hw; rw [wk_some, ho1] at h9; exact h9) (lv_sub hl [1, 0, 2, 3] rfl)
  refine lv_aload_n hx hb dX2_nth_0 rfl (lv_at hl 0 rfl) ?_
  rcases oc (O 1 t) with ho3 | ⟨j4, ho3⟩
  · refine fw_get (v := .null) (C := RX2) (T := TX2) (N := 2) hx hb hts in2 hown hK hP (x_at6 hj ht) rfl 0 (by decide) (hts (.fieldLink RX2 15 "WagonSidings$Track" "first" "LWagonSidings$Wagon;") (by decide +kernel)) (fun _ h9 => h9) (by rw [ho3]; rfl) dX2_nth_1 ?_
    refine lv_astore_nN (lv' := [(2, .null), (0, .ref (ad 6 t)), (1, .int (nI k))]) hx hb dX2_nth_4 rfl hl (by decide) rfl (fun ls hl => ?_)
    refine lv_iconst (v := 0) hx hb dX2_nth_5 (by decide) ?_
    refine lv_istore_n (lv' := [(3, .int 0), (2, .null), (0, .ref (ad 6 t)), (1, .int (nI k))]) hx hb dX2_nth_6 rfl hl (by decide) rfl (fun ls hl => ?_)
    exact loop k 0 none ls (Nat.zero_add k) (fun x q => by cases q) (by rw [ho3]) (lv_sub hl [1, 0, 2, 3] rfl)
  · have hj4 := (hI.2.1 _ _ _ ho3)
    refine fw_get (v := .ref (ad 5 j4)) (C := RX2) (T := TX2) (N := 2) hx hb hts in2 hown hK hP (x_at6 hj ht) rfl 0 (by decide) (hts (.fieldLink RX2 15 "WagonSidings$Track" "first" "LWagonSidings$Wagon;") (by decide +kernel)) (fun _ h9 => h9) (by rw [ho3]; rfl) dX2_nth_1 ?_
    refine lv_astore_n (lv' := [(2, .ref (ad 5 j4)), (0, .ref (ad 6 t)), (1, .int (nI k))]) hx hb dX2_nth_4 rfl hl (by decide) rfl (fun ls hl => ?_)
    refine lv_iconst (v := 0) hx hb dX2_nth_5 (by decide) ?_
    refine lv_istore_n (lv' := [(3, .int 0), (2, .ref (ad 5 j4)), (0, .ref (ad 6 t)), (1, .int (nI k))]) hx hb dX2_nth_6 rfl hl (by decide) rfl (fun ls hl => ?_)
    exact loop k 0 (some j4) ls (Nat.zero_add k) (fun x q => by cases q; exact hj4) (by rw [ho3]) (lv_sub hl [1, 0, 2, 3] rfl)

theorem nI_40 {a : Int32} (h : ¬ (a < 0 ∨ 40 < a)) : ∃ k : Nat, k ≤ 40 ∧ a = nI k := by
  obtain ⟨j, hj, rfl⟩ := nI_of (fun q => h (Or.inl q))
  refine ⟨j, ?_, rfl⟩
  rcases Nat.lt_or_ge 40 j with q | q
  · exact absurd (Or.inr (nI_lt q hj)) h
  · exact q
theorem c_X2_nth (l : Launch) (D : va_G) (kk : Nat → ClassId) (ad : Nat → Nat → Nat) (n : Nat) (I : sI) (O : sO) (hj : sj (xV n) ad) (hI : xI n O) {t : Nat} (ht : t < 6) (a : Int32) (hno : ¬ (a < 0 ∨ 40 < a)) : fw_Mq l yX2_nth wsX2_nth { frames := 0, cells := 0, slots := 0, locals := 0 } 0 0 D vwCl (xT kk) (xw kk ad n I O) [.ref (ad 6 t), .int a] (fun r w1 => r = (wk (O 0) a.toNatClampNeg (O 1 t)).map (ad 5) ∧ w1 = xw kk ad n I O) := by
  obtain ⟨k, hk, rfl⟩ := nI_40 hno
  exact c_X2_nth0 l D kk ad n I O hj hI ht k hk
