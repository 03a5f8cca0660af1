set_option maxHeartbeats 4000000 in
set_option maxRecDepth 100000 in
theorem law_drop {p : Program} {e : Env} {s : State} {m : MethodId} {below : List Frame} {meth : Method} {c : Code} (l : Launch) {b L : Nat} {xs : Nat → Int32} (hL : L ≤ 2560) (C0 : lw_At p s m meth c b L xs) (D : va_G) (kk : Nat → ClassId) (hK : va_K D vwCl (xT kk) s) (i : Nat) (hi5 : i + 5 ≤ L) (kk9 : ∀ (adx adm : Nat → Nat → Nat) (n : Nat) (I : sI) (O : sO) (J : sI) (H : Heap) (locs : List Loc) (ls : Array Slot), sj (xV n) adx → sj mV adm → yI n I O → mR n I O J → fw_P D vwCl (xw kk adx n I O) H → fw_D (fun q : Nat => s.heap.size ≤ q) (xw kk adx n I O) → fw_P D vwCl (mw kk adm J) H → fw_D (fun q : Nat => s.heap.size ≤ q) (mw kk adm J) → (∀ (a : Nat) (x y : va_E), xw kk adx n I O a = some x → mw kk adm J a = some y → False) → va_S (fun q : Nat => s.heap.size ≤ q) s.heap H locs → lv_has ls 4 [(3, .int (nI (i + 5))), (0, .ref b), (1, .ref (adx 0 0)), (2, .ref (adm 0 0))] → W p l e room_1 s m #[Value.ref b] below meth c H locs (35 + (i + 5)) (639 + 6 * (i + 5)) (lw_Z below #[Value.ref b] s) (F0 m 18 ls [])) : ∀ (adx adm : Nat → Nat → Nat) (n : Nat) (I : sI) (O : sO) (J : sI) (H : Heap) (locs : List Loc) (ls : Array Slot), sj (xV n) adx → sj mV adm → yI n I O → mR n I O J → fw_P D vwCl (xw kk adx n I O) H → fw_D (fun q : Nat => s.heap.size ≤ q) (xw kk adx n I O) → fw_P D vwCl (mw kk adm J) H → fw_D (fun q : Nat => s.heap.size ≤ q) (mw kk adm J) → (∀ (a : Nat) (x y : va_E), xw kk adx n I O a = some x → mw kk adm J a = some y → False) → va_S (fun q : Nat => s.heap.size ≤ q) s.heap H locs → lv_has ls 4 [(3, .int (nI i)), (0, .ref b), (1, .ref (adx 0 0)), (2, .ref (adm 0 0))] → W p l e room_1 s m #[Value.ref b] below meth c H locs (35 + i) (639 + 6 * i) (lw_Z below #[Value.ref b] s) (F0 m 525 ls []) := by
  intro adx adm n I O J H locs ls hjx hjm hY hR hPx hDx hPm hDm hdis hS hl
  obtain ⟨hx, hb, hr, hml, hown, hts, hX, hbl, hlocks, hgv⟩ := id C0
  have hown : s.vm.findClass RL = some m.cls := hown
  have hts := fun w h => hts w (wsL_law_in w h)
  have hA : ∀ q : Nat, s.heap.size ≤ q → (fun q : Nat => s.heap.size ≤ q) q := fun _ h => h
  have hbA : ¬ (fun q : Nat => s.heap.size ≤ q) b := Nat.not_le.mpr hbl
  refine lv_aload_n hx hb dL_law_525 rfl (lv_at hl 2 rfl) ?_
  refine lv_aload_n hx hb dL_law_526 rfl (lv_at hl 1 rfl) ?_
  refine lv_iload_n hx hb dL_law_527 rfl (lv_at hl 0 rfl) ?_
  refine lv_iconst (v := 1) hx hb dL_law_528 (by decide) ?_
  refine lv_iadd hx hb dL_law_529 ?_
  refine W.eq (g2 := F0 m 530 ls [.int (nI (i + 1)), .ref b, .ref (adx 0 0)]) (by rw [show (1 : Int32) = nI 1 from rfl, nI_add]) ?_
  refine va_sld hx hb hX hbl hbA hS (vp_in_nI (by omega) (by omega)) dL_law_530 ?_
  refine W.eq (g2 := F0 m 531 ls [.int (xs (i + 1)), .ref (adx 0 0)]) (by rw [nI_clamp (by omega)]) ?_
  refine fw_calli2 (va_runV (As := [.int (xs (i + 1))]) (rest := []) ⟨hx, hb, hml, hown, hts⟩ (c_X4_drop l D kk adx n I O hjx hY (xs (i + 1)) _) (cwV 1 hts gL_law_X4_drop rfl rfl rfl (by decide +kernel) ⟨Nat.le_of_ble_eq_true rfl, Nat.le_of_ble_eq_true rfl⟩) (fw_preV hK hPx (ci := 4) rfl (x_at0 hjx)) rfl rfl hl.1 rfl (lv_room (Nat.le_of_ble_eq_true rfl)) dL_law_531 ⟨by show 35 + i + 0 ≤ 639303; omega, by show 639 + 6 * i + 0 ≤ 7184338; omega⟩) hDx hS hA hPm hdis (fun r w1 H locs hq hPx hDx hS hPm hdis => ?_)
  obtain ⟨I1, O1, e1, rfl⟩ := hq
  refine lv_aload_n hx hb dL_law_534 rfl (lv_at hl 3 rfl) ?_
  refine lv_aload_n hx hb dL_law_535 rfl (lv_at hl 1 rfl) ?_
  refine lv_iload_n hx hb dL_law_536 rfl (lv_at hl 0 rfl) ?_
  refine lv_iconst (v := 1) hx hb dL_law_537 (by decide) ?_
  refine lv_iadd hx hb dL_law_538 ?_
  refine W.eq (g2 := F0 m 539 ls [.int (nI (i + 1)), .ref b, .ref (adm 0 0), .int r]) (by rw [show (1 : Int32) = nI 1 from rfl, nI_add]) ?_
  refine va_sld hx hb hX hbl hbA hS (vp_in_nI (by omega) (by omega)) dL_law_539 ?_
  refine W.eq (g2 := F0 m 540 ls [.int (xs (i + 1)), .ref (adm 0 0), .int r]) (by rw [nI_clamp (by omega)]) ?_
  refine fw_calli2 (va_runV (As := [.int (xs (i + 1))]) (rest := [.int r]) ⟨hx, hb, hml, hown, hts⟩ (c_X5_drop l D kk adm n I O J hjm hY hR (xs (i + 1)) _) (cwV 1 hts gL_law_X5_drop rfl rfl rfl (by decide +kernel) ⟨Nat.le_of_ble_eq_true rfl, Nat.le_of_ble_eq_true rfl⟩) (fw_preV hK hPm (ci := 5) rfl (m_at0 hjm)) rfl rfl hl.1 rfl (lv_room (Nat.le_of_ble_eq_true rfl)) dL_law_540 ⟨by show 35 + i + 0 + 0 ≤ 639303; omega, by show 639 + 6 * i + 0 + 0 ≤ 7184338; omega⟩) hDm hS hA hPx (fun a x y h1 h2 => hdis a y x h2 h1) (fun r2 w1 H locs hq hPm hDm hS hPx hdis => ?_)
  obtain ⟨I2, O2, J2, e2, hR2, rfl⟩ := hq
  rw [e1] at e2
  cases e2
  refine lv_icmp_eq (tgt := 845) hx hb dL_law_543 (by decide) (fun _ => ?_) (fun c9 => absurd rfl c9)
  refine lv_iinc (v := nI (i + 5)) (lv' := [(3, .int (nI (i + 5))), (0, .ref b), (1, .ref (adx 0 0)), (2, .ref (adm 0 0))]) hx hb dL_law_845 hl (k := 0) rfl (nI_add i 5) (by decide) rfl (fun ls hl => ?_)
  refine lv_goto (tgt := 18) hx hb dL_law_848 (by decide) ?_
  refine W.widen (k := 35 + (i + 5)) (n := 639 + 6 * (i + 5)) (by omega) (by omega) ?_
  exact kk9 adx adm n I1 O1 J2 H locs ls hjx hjm (ys_drop hY e1) hR2 hPx hDx hPm hDm (fun a x y h1 h2 => hdis a y x h2 h1) hS hl
set_option maxHeartbeats 4000000 in
set_option maxRecDepth 100000 in
theorem law_lay {p : Program} {e : Env} {s : State} {m : MethodId} {below : List Frame} {meth : Method} {c : Code} (l : Launch) {b L : Nat} {xs : Nat → Int32} (hL : L ≤ 2560) (C0 : lw_At p s m meth c b L xs) (D : va_G) (kk : Nat → ClassId) (hK : va_K D vwCl (xT kk) s) (i : Nat) (hi5 : i + 5 ≤ L) (kk9 : ∀ (adx adm : Nat → Nat → Nat) (n : Nat) (I : sI) (O : sO) (J : sI) (H : Heap) (locs : List Loc) (ls : Array Slot), sj (xV n) adx → sj mV adm → yI n I O → mR n I O J → fw_P D vwCl (xw kk adx n I O) H → fw_D (fun q : Nat => s.heap.size ≤ q) (xw kk adx n I O) → fw_P D vwCl (mw kk adm J) H → fw_D (fun q : Nat => s.heap.size ≤ q) (mw kk adm J) → (∀ (a : Nat) (x y : va_E), xw kk adx n I O a = some x → mw kk adm J a = some y → False) → va_S (fun q : Nat => s.heap.size ≤ q) s.heap H locs → lv_has ls 4 [(3, .int (nI (i + 5))), (0, .ref b), (1, .ref (adx 0 0)), (2, .ref (adm 0 0))] → W p l e room_1 s m #[Value.ref b] below meth c H locs (35 + (i + 5)) (639 + 6 * (i + 5)) (lw_Z below #[Value.ref b] s) (F0 m 18 ls [])) : ∀ (adx adm : Nat → Nat → Nat) (n : Nat) (I : sI) (O : sO) (J : sI) (H : Heap) (locs : List Loc) (ls : Array Slot), sj (xV n) adx → sj mV adm → yI n I O → mR n I O J → fw_P D vwCl (xw kk adx n I O) H → fw_D (fun q : Nat => s.heap.size ≤ q) (xw kk adx n I O) → fw_P D vwCl (mw kk adm J) H → fw_D (fun q : Nat => s.heap.size ≤ q) (mw kk adm J) → (∀ (a : Nat) (x y : va_E), xw kk adx n I O a = some x → mw kk adm J a = some y → False) → va_S (fun q : Nat => s.heap.size ≤ q) s.heap H locs → lv_has ls 4 [(3, .int (nI i)), (0, .ref b), (1, .ref (adx 0 0)), (2, .ref (adm 0 0))] → W p l e room_1 s m #[Value.ref b] below meth c H locs (35 + i) (639 + 6 * i) (lw_Z below #[Value.ref b] s) (F0 m 548 ls []) := by
  intro adx adm n I O J H locs ls hjx hjm hY hR hPx hDx hPm hDm hdis hS hl
  obtain ⟨hx, hb, hr, hml, hown, hts, hX, hbl, hlocks, hgv⟩ := id C0
  have hown : s.vm.findClass RL = some m.cls := hown
  have hts := fun w h => hts w (wsL_law_in w h)
  have hA : ∀ q : Nat, s.heap.size ≤ q → (fun q : Nat => s.heap.size ≤ q) q := fun _ h => h
  have hbA : ¬ (fun q : Nat => s.heap.size ≤ q) b := Nat.not_le.mpr hbl
  refine lv_aload_n hx hb dL_law_548 rfl (lv_at hl 2 rfl) ?_
  refine lv_aload_n hx hb dL_law_549 rfl (lv_at hl 1 rfl) ?_
  refine lv_iload_n hx hb dL_law_550 rfl (lv_at hl 0 rfl) ?_
  refine lv_iconst (v := 1) hx hb dL_law_551 (by decide) ?_
  refine lv_iadd hx hb dL_law_552 ?_
  refine W.eq (g2 := F0 m 553 ls [.int (nI (i + 1)), .ref b, .ref (adx 0 0)]) (by rw [show (1 : Int32) = nI 1 from rfl, nI_add]) ?_
  refine va_sld hx hb hX hbl hbA hS (vp_in_nI (by omega) (by omega)) dL_law_553 ?_
  refine W.eq (g2 := F0 m 554 ls [.int (xs (i + 1)), .ref (adx 0 0)]) (by rw [nI_clamp (by omega)]) ?_
  refine lv_aload_n hx hb dL_law_554 rfl (lv_at hl 1 rfl) ?_
  refine lv_iload_n hx hb dL_law_555 rfl (lv_at hl 0 rfl) ?_
  refine lv_iconst (v := 2) hx hb dL_law_556 (by decide) ?_
  refine lv_iadd hx hb dL_law_557 ?_
  refine W.eq (g2 := F0 m 558 ls [.int (nI (i + 2)), .ref b, .int (xs (i + 1)), .ref (adx 0 0)]) (by rw [show (2 : Int32) = nI 2 from rfl, nI_add]) ?_
  refine va_sld hx hb hX hbl hbA hS (vp_in_nI (by omega) (by omega)) dL_law_558 ?_
  refine W.eq (g2 := F0 m 559 ls [.int (xs (i + 2)), .int (xs (i + 1)), .ref (adx 0 0)]) (by rw [nI_clamp (by omega)]) ?_
  refine fw_calli2 (va_runV (As := [.int (xs (i + 1)), .int (xs (i + 2))]) (rest := []) ⟨hx, hb, hml, hown, hts⟩ (c_X4_lay l D kk adx n I O hjx hY (xs (i + 1)) (xs (i + 2)) _) (cwV 2 hts gL_law_X4_lay rfl rfl rfl (by decide +kernel) ⟨Nat.le_of_ble_eq_true rfl, Nat.le_of_ble_eq_true rfl⟩) (fw_preV hK hPx (ci := 4) rfl (x_at0 hjx)) rfl rfl hl.1 rfl (lv_room (Nat.le_of_ble_eq_true rfl)) dL_law_559 ⟨by show 35 + i + 0 ≤ 639303; omega, by show 639 + 6 * i + 0 ≤ 7184338; omega⟩) hDx hS hA hPm hdis (fun r w1 H locs hq hPx hDx hS hPm hdis => ?_)
  obtain ⟨I1, O1, e1, rfl⟩ := hq
  refine lv_aload_n hx hb dL_law_562 rfl (lv_at hl 3 rfl) ?_
  refine lv_aload_n hx hb dL_law_563 rfl (lv_at hl 1 rfl) ?_
  refine lv_iload_n hx hb dL_law_564 rfl (lv_at hl 0 rfl) ?_
  refine lv_iconst (v := 1) hx hb dL_law_565 (by decide) ?_
  refine lv_iadd hx hb dL_law_566 ?_
  refine W.eq (g2 := F0 m 567 ls [.int (nI (i + 1)), .ref b, .ref (adm 0 0), .int r]) (by rw [show (1 : Int32) = nI 1 from rfl, nI_add]) ?_
  refine va_sld hx hb hX hbl hbA hS (vp_in_nI (by omega) (by omega)) dL_law_567 ?_
  refine W.eq (g2 := F0 m 568 ls [.int (xs (i + 1)), .ref (adm 0 0), .int r]) (by rw [nI_clamp (by omega)]) ?_
  refine lv_aload_n hx hb dL_law_568 rfl (lv_at hl 1 rfl) ?_
  refine lv_iload_n hx hb dL_law_569 rfl (lv_at hl 0 rfl) ?_
  refine lv_iconst (v := 2) hx hb dL_law_570 (by decide) ?_
  refine lv_iadd hx hb dL_law_571 ?_
  refine W.eq (g2 := F0 m 572 ls [.int (nI (i + 2)), .ref b, .int (xs (i + 1)), .ref (adm 0 0), .int r]) (by rw [show (2 : Int32) = nI 2 from rfl, nI_add]) ?_
  refine va_sld hx hb hX hbl hbA hS (vp_in_nI (by omega) (by omega)) dL_law_572 ?_
  refine W.eq (g2 := F0 m 573 ls [.int (xs (i + 2)), .int (xs (i + 1)), .ref (adm 0 0), .int r]) (by rw [nI_clamp (by omega)]) ?_
  refine fw_calli2 (va_runV (As := [.int (xs (i + 1)), .int (xs (i + 2))]) (rest := [.int r]) ⟨hx, hb, hml, hown, hts⟩ (c_X5_lay l D kk adm n I O J hjm hY hR (xs (i + 1)) (xs (i + 2)) _) (cwV 2 hts gL_law_X5_lay rfl rfl rfl (by decide +kernel) ⟨Nat.le_of_ble_eq_true rfl, Nat.le_of_ble_eq_true rfl⟩) (fw_preV hK hPm (ci := 5) rfl (m_at0 hjm)) rfl rfl hl.1 rfl (lv_room (Nat.le_of_ble_eq_true rfl)) dL_law_573 ⟨by show 35 + i + 0 + 0 ≤ 639303; omega, by show 639 + 6 * i + 0 + 0 ≤ 7184338; omega⟩) hDm hS hA hPx (fun a x y h1 h2 => hdis a y x h2 h1) (fun r2 w1 H locs hq hPm hDm hS hPx hdis => ?_)
  obtain ⟨I2, O2, J2, e2, hR2, rfl⟩ := hq
  rw [e1] at e2
  cases e2
  refine lv_icmp_eq (tgt := 845) hx hb dL_law_576 (by decide) (fun _ => ?_) (fun c9 => absurd rfl c9)
  refine lv_iinc (v := nI (i + 5)) (lv' := [(3, .int (nI (i + 5))), (0, .ref b), (1, .ref (adx 0 0)), (2, .ref (adm 0 0))]) hx hb dL_law_845 hl (k := 0) rfl (nI_add i 5) (by decide) rfl (fun ls hl => ?_)
  refine lv_goto (tgt := 18) hx hb dL_law_848 (by decide) ?_
  refine W.widen (k := 35 + (i + 5)) (n := 639 + 6 * (i + 5)) (by omega) (by omega) ?_
  exact kk9 adx adm n I1 O1 J2 H locs ls hjx hjm (ys_lay hY e1) hR2 hPx hDx hPm hDm (fun a x y h1 h2 => hdis a y x h2 h1) hS hl
set_option maxHeartbeats 4000000 in
set_option maxRecDepth 100000 in
theorem law_places {p : Program} {e : Env} {s : State} {m : MethodId} {below : List Frame} {meth : Method} {c : Code} (l : Launch) {b L : Nat} {xs : Nat → Int32} (hL : L ≤ 2560) (C0 : lw_At p s m meth c b L xs) (D : va_G) (kk : Nat → ClassId) (hK : va_K D vwCl (xT kk) s) (i : Nat) (hi5 : i + 5 ≤ L) (kk9 : ∀ (adx adm : Nat → Nat → Nat) (n : Nat) (I : sI) (O : sO) (J : sI) (H : Heap) (locs : List Loc) (ls : Array Slot), sj (xV n) adx → sj mV adm → yI n I O → mR n I O J → fw_P D vwCl (xw kk adx n I O) H → fw_D (fun q : Nat => s.heap.size ≤ q) (xw kk adx n I O) → fw_P D vwCl (mw kk adm J) H → fw_D (fun q : Nat => s.heap.size ≤ q) (mw kk adm J) → (∀ (a : Nat) (x y : va_E), xw kk adx n I O a = some x → mw kk adm J a = some y → False) → va_S (fun q : Nat => s.heap.size ≤ q) s.heap H locs → lv_has ls 4 [(3, .int (nI (i + 5))), (0, .ref b), (1, .ref (adx 0 0)), (2, .ref (adm 0 0))] → W p l e room_1 s m #[Value.ref b] below meth c H locs (35 + (i + 5)) (639 + 6 * (i + 5)) (lw_Z below #[Value.ref b] s) (F0 m 18 ls [])) : ∀ (adx adm : Nat → Nat → Nat) (n : Nat) (I : sI) (O : sO) (J : sI) (H : Heap) (locs : List Loc) (ls : Array Slot), sj (xV n) adx → sj mV adm → yI n I O → mR n I O J → fw_P D vwCl (xw kk adx n I O) H → fw_D (fun q : Nat => s.heap.size ≤ q) (xw kk adx n I O) → fw_P D vwCl (mw kk adm J) H → fw_D (fun q : Nat => s.heap.size ≤ q) (mw kk adm J) → (∀ (a : Nat) (x y : va_E), xw kk adx n I O a = some x → mw kk adm J a = some y → False) → va_S (fun q : Nat => s.heap.size ≤ q) s.heap H locs → lv_has ls 4 [(3, .int (nI i)), (0, .ref b), (1, .ref (adx 0 0)), (2, .ref (adm 0 0))] → W p l e room_1 s m #[Value.ref b] below meth c H locs (35 + i) (639 + 6 * i) (lw_Z below #[Value.ref b] s) (F0 m 581 ls []) := by
  intro adx adm n I O J H locs ls hjx hjm hY hR hPx hDx hPm hDm hdis hS hl
  obtain ⟨hx, hb, hr, hml, hown, hts, hX, hbl, hlocks, hgv⟩ := id C0
  have hown : s.vm.findClass RL = some m.cls := hown
  have hts := fun w h => hts w (wsL_law_in w h)
  have hA : ∀ q : Nat, s.heap.size ≤ q → (fun q : Nat => s.heap.size ≤ q) q := fun _ h => h
  have hbA : ¬ (fun q : Nat => s.heap.size ≤ q) b := Nat.not_le.mpr hbl
  refine lv_aload_n hx hb dL_law_581 rfl (lv_at hl 2 rfl) ?_
  refine lv_aload_n hx hb dL_law_582 rfl (lv_at hl 1 rfl) ?_
  refine lv_iload_n hx hb dL_law_583 rfl (lv_at hl 0 rfl) ?_
  refine lv_iconst (v := 1) hx hb dL_law_584 (by decide) ?_
  refine lv_iadd hx hb dL_law_585 ?_
  refine W.eq (g2 := F0 m 586 ls [.int (nI (i + 1)), .ref b, .ref (adx 0 0)]) (by rw [show (1 : Int32) = nI 1 from rfl, nI_add]) ?_
  refine va_sld hx hb hX hbl hbA hS (vp_in_nI (by omega) (by omega)) dL_law_586 ?_
  refine W.eq (g2 := F0 m 587 ls [.int (xs (i + 1)), .ref (adx 0 0)]) (by rw [nI_clamp (by omega)]) ?_
  refine fw_calli2 (va_runV (As := [.int (xs (i + 1))]) (rest := []) ⟨hx, hb, hml, hown, hts⟩ (c_X4_places l D kk adx n I O hjx hY (xs (i + 1)) _) (cwV 1 hts gL_law_X4_places rfl rfl rfl (by decide +kernel) ⟨Nat.le_of_ble_eq_true rfl, Nat.le_of_ble_eq_true rfl⟩) (fw_preV hK hPx (ci := 4) rfl (x_at0 hjx)) rfl rfl hl.1 rfl (lv_room (Nat.le_of_ble_eq_true rfl)) dL_law_587 ⟨by show 35 + i + 0 ≤ 639303; omega, by show 639 + 6 * i + 0 ≤ 7184338; omega⟩) hDx hS hA hPm hdis (fun r w1 H locs hq hPx hDx hS hPm hdis => ?_)
  obtain ⟨I1, O1, e1, rfl⟩ := hq
  refine lv_aload_n hx hb dL_law_590 rfl (lv_at hl 3 rfl) ?_
  refine lv_aload_n hx hb dL_law_591 rfl (lv_at hl 1 rfl) ?_
  refine lv_iload_n hx hb dL_law_592 rfl (lv_at hl 0 rfl) ?_
  refine lv_iconst (v := 1) hx hb dL_law_593 (by decide) ?_
  refine lv_iadd hx hb dL_law_594 ?_
  refine W.eq (g2 := F0 m 595 ls [.int (nI (i + 1)), .ref b, .ref (adm 0 0), .int r]) (by rw [show (1 : Int32) = nI 1 from rfl, nI_add]) ?_
  refine va_sld hx hb hX hbl hbA hS (vp_in_nI (by omega) (by omega)) dL_law_595 ?_
  refine W.eq (g2 := F0 m 596 ls [.int (xs (i + 1)), .ref (adm 0 0), .int r]) (by rw [nI_clamp (by omega)]) ?_
  refine fw_calli2 (va_runV (As := [.int (xs (i + 1))]) (rest := [.int r]) ⟨hx, hb, hml, hown, hts⟩ (c_X5_places l D kk adm n I O J hjm hY hR (xs (i + 1)) _) (cwV 1 hts gL_law_X5_places rfl rfl rfl (by decide +kernel) ⟨Nat.le_of_ble_eq_true rfl, Nat.le_of_ble_eq_true rfl⟩) (fw_preV hK hPm (ci := 5) rfl (m_at0 hjm)) rfl rfl hl.1 rfl (lv_room (Nat.le_of_ble_eq_true rfl)) dL_law_596 ⟨by show 35 + i + 0 + 0 ≤ 639303; omega, by show 639 + 6 * i + 0 + 0 ≤ 7184338; omega⟩) hDm hS hA hPx (fun a x y h1 h2 => hdis a y x h2 h1) (fun r2 w1 H locs hq hPm hDm hS hPx hdis => ?_)
  obtain ⟨I2, O2, J2, e2, hR2, rfl⟩ := hq
  rw [e1] at e2
  cases e2
  refine lv_icmp_eq (tgt := 845) hx hb dL_law_599 (by decide) (fun _ => ?_) (fun c9 => absurd rfl c9)
  refine lv_iinc (v := nI (i + 5)) (lv' := [(3, .int (nI (i + 5))), (0, .ref b), (1, .ref (adx 0 0)), (2, .ref (adm 0 0))]) hx hb dL_law_845 hl (k := 0) rfl (nI_add i 5) (by decide) rfl (fun ls hl => ?_)
  refine lv_goto (tgt := 18) hx hb dL_law_848 (by decide) ?_
  refine W.widen (k := 35 + (i + 5)) (n := 639 + 6 * (i + 5)) (by omega) (by omega) ?_
  exact kk9 adx adm n I1 O1 J2 H locs ls hjx hjm (ys_places hY e1) hR2 hPx hDx hPm hDm (fun a x y h1 h2 => hdis a y x h2 h1) hS hl
set_option maxHeartbeats 4000000 in
set_option maxRecDepth 100000 in
theorem law_loadOn {p : Program} {e : Env} {s : State} {m : MethodId} {below : List Frame} {meth : Method} {c : Code} (l : Launch) {b L : Nat} {xs : Nat → Int32} (hL : L ≤ 2560) (C0 : lw_At p s m meth c b L xs) (D : va_G) (kk : Nat → ClassId) (hK : va_K D vwCl (xT kk) s) (i : Nat) (hi5 : i + 5 ≤ L) (kk9 : ∀ (adx adm : Nat → Nat → Nat) (n : Nat) (I : sI) (O : sO) (J : sI) (H : Heap) (locs : List Loc) (ls : Array Slot), sj (xV n) adx → sj mV adm → yI n I O → mR n I O J → fw_P D vwCl (xw kk adx n I O) H → fw_D (fun q : Nat => s.heap.size ≤ q) (xw kk adx n I O) → fw_P D vwCl (mw kk adm J) H → fw_D (fun q : Nat => s.heap.size ≤ q) (mw kk adm J) → (∀ (a : Nat) (x y : va_E), xw kk adx n I O a = some x → mw kk adm J a = some y → False) → va_S (fun q : Nat => s.heap.size ≤ q) s.heap H locs → lv_has ls 4 [(3, .int (nI (i + 5))), (0, .ref b), (1, .ref (adx 0 0)), (2, .ref (adm 0 0))] → W p l e room_1 s m #[Value.ref b] below meth c H locs (35 + (i + 5)) (639 + 6 * (i + 5)) (lw_Z below #[Value.ref b] s) (F0 m 18 ls [])) : ∀ (adx adm : Nat → Nat → Nat) (n : Nat) (I : sI) (O : sO) (J : sI) (H : Heap) (locs : List Loc) (ls : Array Slot), sj (xV n) adx → sj mV adm → yI n I O → mR n I O J → fw_P D vwCl (xw kk adx n I O) H → fw_D (fun q : Nat => s.heap.size ≤ q) (xw kk adx n I O) → fw_P D vwCl (mw kk adm J) H → fw_D (fun q : Nat => s.heap.size ≤ q) (mw kk adm J) → (∀ (a : Nat) (x y : va_E), xw kk adx n I O a = some x → mw kk adm J a = some y → False) → va_S (fun q : Nat => s.heap.size ≤ q) s.heap H locs → lv_has ls 4 [(3, .int (nI i)), (0, .ref b), (1, .ref (adx 0 0)), (2, .ref (adm 0 0))] → W p l e room_1 s m #[Value.ref b] below meth c H locs (35 + i) (639 + 6 * i) (lw_Z below #[Value.ref b] s) (F0 m 604 ls []) := by
  intro adx adm n I O J H locs ls hjx hjm hY hR hPx hDx hPm hDm hdis hS hl
  obtain ⟨hx, hb, hr, hml, hown, hts, hX, hbl, hlocks, hgv⟩ := id C0
  have hown : s.vm.findClass RL = some m.cls := hown
  have hts := fun w h => hts w (wsL_law_in w h)
  have hA : ∀ q : Nat, s.heap.size ≤ q → (fun q : Nat => s.heap.size ≤ q) q := fun _ h => h
  have hbA : ¬ (fun q : Nat => s.heap.size ≤ q) b := Nat.not_le.mpr hbl
  refine lv_aload_n hx hb dL_law_604 rfl (lv_at hl 2 rfl) ?_
  refine lv_aload_n hx hb dL_law_605 rfl (lv_at hl 1 rfl) ?_
  refine lv_iload_n hx hb dL_law_606 rfl (lv_at hl 0 rfl) ?_
  refine lv_iconst (v := 1) hx hb dL_law_607 (by decide) ?_
  refine lv_iadd hx hb dL_law_608 ?_
  refine W.eq (g2 := F0 m 609 ls [.int (nI (i + 1)), .ref b, .ref (adx 0 0)]) (by rw [show (1 : Int32) = nI 1 from rfl, nI_add]) ?_
  refine va_sld hx hb hX hbl hbA hS (vp_in_nI (by omega) (by omega)) dL_law_609 ?_
  refine W.eq (g2 := F0 m 610 ls [.int (xs (i + 1)), .ref (adx 0 0)]) (by rw [nI_clamp (by omega)]) ?_
  refine lv_aload_n hx hb dL_law_610 rfl (lv_at hl 1 rfl) ?_
  refine lv_iload_n hx hb dL_law_611 rfl (lv_at hl 0 rfl) ?_
  refine lv_iconst (v := 2) hx hb dL_law_612 (by decide) ?_
  refine lv_iadd hx hb dL_law_613 ?_
  refine W.eq (g2 := F0 m 614 ls [.int (nI (i + 2)), .ref b, .int (xs (i + 1)), .ref (adx 0 0)]) (by rw [show (2 : Int32) = nI 2 from rfl, nI_add]) ?_
  refine va_sld hx hb hX hbl hbA hS (vp_in_nI (by omega) (by omega)) dL_law_614 ?_
  refine W.eq (g2 := F0 m 615 ls [.int (xs (i + 2)), .int (xs (i + 1)), .ref (adx 0 0)]) (by rw [nI_clamp (by omega)]) ?_
  refine fw_calli2 (va_runV (As := [.int (xs (i + 1)), .int (xs (i + 2))]) (rest := []) ⟨hx, hb, hml, hown, hts⟩ (c_X4_loadOn l D kk adx n I O hjx hY (xs (i + 1)) (xs (i + 2)) _) (cwV 2 hts gL_law_X4_loadOn rfl rfl rfl (by decide +kernel) ⟨Nat.le_of_ble_eq_true rfl, Nat.le_of_ble_eq_true rfl⟩) (fw_preV hK hPx (ci := 4) rfl (x_at0 hjx)) rfl rfl hl.1 rfl (lv_room (Nat.le_of_ble_eq_true rfl)) dL_law_615 ⟨by show 35 + i + 0 ≤ 639303; omega, by show 639 + 6 * i + 0 ≤ 7184338; omega⟩) hDx hS hA hPm hdis (fun r w1 H locs hq hPx hDx hS hPm hdis => ?_)
  obtain ⟨I1, O1, e1, rfl⟩ := hq
  refine lv_aload_n hx hb dL_law_618 rfl (lv_at hl 3 rfl) ?_
  refine lv_aload_n hx hb dL_law_619 rfl (lv_at hl 1 rfl) ?_
  refine lv_iload_n hx hb dL_law_620 rfl (lv_at hl 0 rfl) ?_
  refine lv_iconst (v := 1) hx hb dL_law_621 (by decide) ?_
  refine lv_iadd hx hb dL_law_622 ?_
  refine W.eq (g2 := F0 m 623 ls [.int (nI (i + 1)), .ref b, .ref (adm 0 0), .int r]) (by rw [show (1 : Int32) = nI 1 from rfl, nI_add]) ?_
  refine va_sld hx hb hX hbl hbA hS (vp_in_nI (by omega) (by omega)) dL_law_623 ?_
  refine W.eq (g2 := F0 m 624 ls [.int (xs (i + 1)), .ref (adm 0 0), .int r]) (by rw [nI_clamp (by omega)]) ?_
  refine lv_aload_n hx hb dL_law_624 rfl (lv_at hl 1 rfl) ?_
  refine lv_iload_n hx hb dL_law_625 rfl (lv_at hl 0 rfl) ?_
  refine lv_iconst (v := 2) hx hb dL_law_626 (by decide) ?_
  refine lv_iadd hx hb dL_law_627 ?_
  refine W.eq (g2 := F0 m 628 ls [.int (nI (i + 2)), .ref b, .int (xs (i + 1)), .ref (adm 0 0), .int r]) (by rw [show (2 : Int32) = nI 2 from rfl, nI_add]) ?_
  refine va_sld hx hb hX hbl hbA hS (vp_in_nI (by omega) (by omega)) dL_law_628 ?_
  refine W.eq (g2 := F0 m 629 ls [.int (xs (i + 2)), .int (xs (i + 1)), .ref (adm 0 0), .int r]) (by rw [nI_clamp (by omega)]) ?_
  refine fw_calli2 (va_runV (As := [.int (xs (i + 1)), .int (xs (i + 2))]) (rest := [.int r]) ⟨hx, hb, hml, hown, hts⟩ (c_X5_loadOn l D kk adm n I O J hjm hY hR (xs (i + 1)) (xs (i + 2)) _) (cwV 2 hts gL_law_X5_loadOn rfl rfl rfl (by decide +kernel) ⟨Nat.le_of_ble_eq_true rfl, Nat.le_of_ble_eq_true rfl⟩) (fw_preV hK hPm (ci := 5) rfl (m_at0 hjm)) rfl rfl hl.1 rfl (lv_room (Nat.le_of_ble_eq_true rfl)) dL_law_629 ⟨by show 35 + i + 0 + 0 ≤ 639303; omega, by show 639 + 6 * i + 0 + 0 ≤ 7184338; omega⟩) hDm hS hA hPx (fun a x y h1 h2 => hdis a y x h2 h1) (fun r2 w1 H locs hq hPm hDm hS hPx hdis => ?_)
  obtain ⟨I2, O2, J2, e2, hR2, rfl⟩ := hq
  rw [e1] at e2
  cases e2
  refine lv_icmp_eq (tgt := 845) hx hb dL_law_632 (by decide) (fun _ => ?_) (fun c9 => absurd rfl c9)
  refine lv_iinc (v := nI (i + 5)) (lv' := [(3, .int (nI (i + 5))), (0, .ref b), (1, .ref (adx 0 0)), (2, .ref (adm 0 0))]) hx hb dL_law_845 hl (k := 0) rfl (nI_add i 5) (by decide) rfl (fun ls hl => ?_)
  refine lv_goto (tgt := 18) hx hb dL_law_848 (by decide) ?_
  refine W.widen (k := 35 + (i + 5)) (n := 639 + 6 * (i + 5)) (by omega) (by omega) ?_
  exact kk9 adx adm n I1 O1 J2 H locs ls hjx hjm (ys_loadOn hY e1) hR2 hPx hDx hPm hDm (fun a x y h1 h2 => hdis a y x h2 h1) hS hl
set_option maxHeartbeats 4000000 in
set_option maxRecDepth 100000 in
theorem law_table {p : Program} {e : Env} {s : State} {m : MethodId} {below : List Frame} {meth : Method} {c : Code} (l : Launch) {b L : Nat} {xs : Nat → Int32} (hL : L ≤ 2560) (C0 : lw_At p s m meth c b L xs) (D : va_G) (kk : Nat → ClassId) (hK : va_K D vwCl (xT kk) s) (i : Nat) (hi5 : i + 5 ≤ L) (kk9 : ∀ (adx adm : Nat → Nat → Nat) (n : Nat) (I : sI) (O : sO) (J : sI) (H : Heap) (locs : List Loc) (ls : Array Slot), sj (xV n) adx → sj mV adm → yI n I O → mR n I O J → fw_P D vwCl (xw kk adx n I O) H → fw_D (fun q : Nat => s.heap.size ≤ q) (xw kk adx n I O) → fw_P D vwCl (mw kk adm J) H → fw_D (fun q : Nat => s.heap.size ≤ q) (mw kk adm J) → (∀ (a : Nat) (x y : va_E), xw kk adx n I O a = some x → mw kk adm J a = some y → False) → va_S (fun q : Nat => s.heap.size ≤ q) s.heap H locs → lv_has ls 4 [(3, .int (nI (i + 5))), (0, .ref b), (1, .ref (adx 0 0)), (2, .ref (adm 0 0))] → W p l e room_1 s m #[Value.ref b] below meth c H locs (35 + (i + 5)) (639 + 6 * (i + 5)) (lw_Z below #[Value.ref b] s) (F0 m 18 ls [])) : ∀ (adx adm : Nat → Nat → Nat) (n : Nat) (I : sI) (O : sO) (J : sI) (H : Heap) (locs : List Loc) (ls : Array Slot), sj (xV n) adx → sj mV adm → yI n I O → mR n I O J → fw_P D vwCl (xw kk adx n I O) H → fw_D (fun q : Nat => s.heap.size ≤ q) (xw kk adx n I O) → fw_P D vwCl (mw kk adm J) H → fw_D (fun q : Nat => s.heap.size ≤ q) (mw kk adm J) → (∀ (a : Nat) (x y : va_E), xw kk adx n I O a = some x → mw kk adm J a = some y → False) → va_S (fun q : Nat => s.heap.size ≤ q) s.heap H locs → lv_has ls 4 [(3, .int (nI i)), (0, .ref b), (1, .ref (adx 0 0)), (2, .ref (adm 0 0))] → W p l e room_1 s m #[Value.ref b] below meth c H locs (35 + i) (639 + 6 * i) (lw_Z below #[Value.ref b] s) (F0 m 637 ls []) := by
  intro adx adm n I O J H locs ls hjx hjm hY hR hPx hDx hPm hDm hdis hS hl
  obtain ⟨hx, hb, hr, hml, hown, hts, hX, hbl, hlocks, hgv⟩ := id C0
  have hown : s.vm.findClass RL = some m.cls := hown
  have hts := fun w h => hts w (wsL_law_in w h)
  have hA : ∀ q : Nat, s.heap.size ≤ q → (fun q : Nat => s.heap.size ≤ q) q := fun _ h => h
  have hbA : ¬ (fun q : Nat => s.heap.size ≤ q) b := Nat.not_le.mpr hbl
  refine lv_aload_n hx hb dL_law_637 rfl (lv_at hl 2 rfl) ?_
  refine lv_aload_n hx hb dL_law_638 rfl (lv_at hl 1 rfl) ?_
  refine lv_iload_n hx hb dL_law_639 rfl (lv_at hl 0 rfl) ?_
  refine lv_iconst (v := 1) hx hb dL_law_640 (by decide) ?_
  refine lv_iadd hx hb dL_law_641 ?_
  refine W.eq (g2 := F0 m 642 ls [.int (nI (i + 1)), .ref b, .ref (adx 0 0)]) (by rw [show (1 : Int32) = nI 1 from rfl, nI_add]) ?_
  refine va_sld hx hb hX hbl hbA hS (vp_in_nI (by omega) (by omega)) dL_law_642 ?_
  refine W.eq (g2 := F0 m 643 ls [.int (xs (i + 1)), .ref (adx 0 0)]) (by rw [nI_clamp (by omega)]) ?_
  refine lv_aload_n hx hb dL_law_643 rfl (lv_at hl 1 rfl) ?_
  refine lv_iload_n hx hb dL_law_644 rfl (lv_at hl 0 rfl) ?_
  refine lv_iconst (v := 2) hx hb dL_law_645 (by decide) ?_
  refine lv_iadd hx hb dL_law_646 ?_
  refine W.eq (g2 := F0 m 647 ls [.int (nI (i + 2)), .ref b, .int (xs (i + 1)), .ref (adx 0 0)]) (by rw [show (2 : Int32) = nI 2 from rfl, nI_add]) ?_
  refine va_sld hx hb hX hbl hbA hS (vp_in_nI (by omega) (by omega)) dL_law_647 ?_
  refine W.eq (g2 := F0 m 648 ls [.int (xs (i + 2)), .int (xs (i + 1)), .ref (adx 0 0)]) (by rw [nI_clamp (by omega)]) ?_
  refine lv_aload_n hx hb dL_law_648 rfl (lv_at hl 1 rfl) ?_
  refine lv_iload_n hx hb dL_law_649 rfl (lv_at hl 0 rfl) ?_
  refine lv_iconst (v := 3) hx hb dL_law_650 (by decide) ?_
  refine lv_iadd hx hb dL_law_651 ?_
  refine W.eq (g2 := F0 m 652 ls [.int (nI (i + 3)), .ref b, .int (xs (i + 2)), .int (xs (i + 1)), .ref (adx 0 0)]) (by rw [show (3 : Int32) = nI 3 from rfl, nI_add]) ?_
  refine va_sld hx hb hX hbl hbA hS (vp_in_nI (by omega) (by omega)) dL_law_652 ?_
  refine W.eq (g2 := F0 m 653 ls [.int (xs (i + 3)), .int (xs (i + 2)), .int (xs (i + 1)), .ref (adx 0 0)]) (by rw [nI_clamp (by omega)]) ?_
  refine fw_calli2 (va_runV (As := [.int (xs (i + 1)), .int (xs (i + 2)), .int (xs (i + 3))]) (rest := []) ⟨hx, hb, hml, hown, hts⟩ (c_X4_table l D kk adx n I O hjx hY (xs (i + 1)) (xs (i + 2)) (xs (i + 3)) _) (cwV 3 hts gL_law_X4_table rfl rfl rfl (by decide +kernel) ⟨Nat.le_of_ble_eq_true rfl, Nat.le_of_ble_eq_true rfl⟩) (fw_preV hK hPx (ci := 4) rfl (x_at0 hjx)) rfl rfl hl.1 rfl (lv_room (Nat.le_of_ble_eq_true rfl)) dL_law_653 ⟨by show 35 + i + 0 ≤ 639303; omega, by show 639 + 6 * i + 0 ≤ 7184338; omega⟩) hDx hS hA hPm hdis (fun r w1 H locs hq hPx hDx hS hPm hdis => ?_)
  obtain ⟨I1, O1, e1, rfl⟩ := hq
  refine lv_aload_n hx hb dL_law_656 rfl (lv_at hl 3 rfl) ?_
  refine lv_aload_n hx hb dL_law_657 rfl (lv_at hl 1 rfl) ?_
  refine lv_iload_n hx hb dL_law_658 rfl (lv_at hl 0 rfl) ?_
  refine lv_iconst (v := 1) hx hb dL_law_659 (by decide) ?_
  refine lv_iadd hx hb dL_law_660 ?_
  refine W.eq (g2 := F0 m 661 ls [.int (nI (i + 1)), .ref b, .ref (adm 0 0), .int r]) (by rw [show (1 : Int32) = nI 1 from rfl, nI_add]) ?_
  refine va_sld hx hb hX hbl hbA hS (vp_in_nI (by omega) (by omega)) dL_law_661 ?_
  refine W.eq (g2 := F0 m 662 ls [.int (xs (i + 1)), .ref (adm 0 0), .int r]) (by rw [nI_clamp (by omega)]) ?_
  refine lv_aload_n hx hb dL_law_662 rfl (lv_at hl 1 rfl) ?_
  refine lv_iload_n hx hb dL_law_663 rfl (lv_at hl 0 rfl) ?_
  refine lv_iconst (v := 2) hx hb dL_law_664 (by decide) ?_
  refine lv_iadd hx hb dL_law_665 ?_
  refine W.eq (g2 := F0 m 666 ls [.int (nI (i + 2)), .ref b, .int (xs (i + 1)), .ref (adm 0 0), .int r]) (by rw [show (2 : Int32) = nI 2 from rfl, nI_add]) ?_
  refine va_sld hx hb hX hbl hbA hS (vp_in_nI (by omega) (by omega)) dL_law_666 ?_
  refine W.eq (g2 := F0 m 667 ls [.int (xs (i + 2)), .int (xs (i + 1)), .ref (adm 0 0), .int r]) (by rw [nI_clamp (by omega)]) ?_
  refine lv_aload_n hx hb dL_law_667 rfl (lv_at hl 1 rfl) ?_
  refine lv_iload_n hx hb dL_law_668 rfl (lv_at hl 0 rfl) ?_
  refine lv_iconst (v := 3) hx hb dL_law_669 (by decide) ?_
  refine lv_iadd hx hb dL_law_670 ?_
  refine W.eq (g2 := F0 m 671 ls [.int (nI (i + 3)), .ref b, .int (xs (i + 2)), .int (xs (i + 1)), .ref (adm 0 0), .int r]) (by rw [show (3 : Int32) = nI 3 from rfl, nI_add]) ?_
  refine va_sld hx hb hX hbl hbA hS (vp_in_nI (by omega) (by omega)) dL_law_671 ?_
  refine W.eq (g2 := F0 m 672 ls [.int (xs (i + 3)), .int (xs (i + 2)), .int (xs (i + 1)), .ref (adm 0 0), .int r]) (by rw [nI_clamp (by omega)]) ?_
  refine fw_calli2 (va_runV (As := [.int (xs (i + 1)), .int (xs (i + 2)), .int (xs (i + 3))]) (rest := [.int r]) ⟨hx, hb, hml, hown, hts⟩ (c_X5_table l D kk adm n I O J hjm hY hR (xs (i + 1)) (xs (i + 2)) (xs (i + 3)) _) (cwV 3 hts gL_law_X5_table rfl rfl rfl (by decide +kernel) ⟨Nat.le_of_ble_eq_true rfl, Nat.le_of_ble_eq_true rfl⟩) (fw_preV hK hPm (ci := 5) rfl (m_at0 hjm)) rfl rfl hl.1 rfl (lv_room (Nat.le_of_ble_eq_true rfl)) dL_law_672 ⟨by show 35 + i + 0 + 0 ≤ 639303; omega, by show 639 + 6 * i + 0 + 0 ≤ 7184338; omega⟩) hDm hS hA hPx (fun a x y h1 h2 => hdis a y x h2 h1) (fun r2 w1 H locs hq hPm hDm hS hPx hdis => ?_)
  obtain ⟨I2, O2, J2, e2, hR2, rfl⟩ := hq
  rw [e1] at e2
  cases e2
  refine lv_icmp_eq (tgt := 845) hx hb dL_law_675 (by decide) (fun _ => ?_) (fun c9 => absurd rfl c9)
  refine lv_iinc (v := nI (i + 5)) (lv' := [(3, .int (nI (i + 5))), (0, .ref b), (1, .ref (adx 0 0)), (2, .ref (adm 0 0))]) hx hb dL_law_845 hl (k := 0) rfl (nI_add i 5) (by decide) rfl (fun ls hl => ?_)
  refine lv_goto (tgt := 18) hx hb dL_law_848 (by decide) ?_
  refine W.widen (k := 35 + (i + 5)) (n := 639 + 6 * (i + 5)) (by omega) (by omega) ?_
  exact kk9 adx adm n I1 O1 J2 H locs ls hjx hjm (ys_table hY e1) hR2 hPx hDx hPm hDm (fun a x y h1 h2 => hdis a y x h2 h1) hS hl
set_option maxHeartbeats 4000000 in
set_option maxRecDepth 100000 in
theorem law_add {p : Program} {e : Env} {s : State} {m : MethodId} {below : List Frame} {meth : Method} {c : Code} (l : Launch) {b L : Nat} {xs : Nat → Int32} (hL : L ≤ 2560) (C0 : lw_At p s m meth c b L xs) (D : va_G) (kk : Nat → ClassId) (hK : va_K D vwCl (xT kk) s) (i : Nat) (hi5 : i + 5 ≤ L) (kk9 : ∀ (adx adm : Nat → Nat → Nat) (n : Nat) (I : sI) (O : sO) (J : sI) (H : Heap) (locs : List Loc) (ls : Array Slot), sj (xV n) adx → sj mV adm → yI n I O → mR n I O J → fw_P D vwCl (xw kk adx n I O) H → fw_D (fun q : Nat => s.heap.size ≤ q) (xw kk adx n I O) → fw_P D vwCl (mw kk adm J) H → fw_D (fun q : Nat => s.heap.size ≤ q) (mw kk adm J) → (∀ (a : Nat) (x y : va_E), xw kk adx n I O a = some x → mw kk adm J a = some y → False) → va_S (fun q : Nat => s.heap.size ≤ q) s.heap H locs → lv_has ls 4 [(3, .int (nI (i + 5))), (0, .ref b), (1, .ref (adx 0 0)), (2, .ref (adm 0 0))] → W p l e room_1 s m #[Value.ref b] below meth c H locs (35 + (i + 5)) (639 + 6 * (i + 5)) (lw_Z below #[Value.ref b] s) (F0 m 18 ls [])) : ∀ (adx adm : Nat → Nat → Nat) (n : Nat) (I : sI) (O : sO) (J : sI) (H : Heap) (locs : List Loc) (ls : Array Slot), sj (xV n) adx → sj mV adm → yI n I O → mR n I O J → fw_P D vwCl (xw kk adx n I O) H → fw_D (fun q : Nat => s.heap.size ≤ q) (xw kk adx n I O) → fw_P D vwCl (mw kk adm J) H → fw_D (fun q : Nat => s.heap.size ≤ q) (mw kk adm J) → (∀ (a : Nat) (x y : va_E), xw kk adx n I O a = some x → mw kk adm J a = some y → False) → va_S (fun q : Nat => s.heap.size ≤ q) s.heap H locs → lv_has ls 4 [(3, .int (nI i)), (0, .ref b), (1, .ref (adx 0 0)), (2, .ref (adm 0 0))] → W p l e room_1 s m #[Value.ref b] below meth c H locs (35 + i) (639 + 6 * i) (lw_Z below #[Value.ref b] s) (F0 m 680 ls []) := by
  intro adx adm n I O J H locs ls hjx hjm hY hR hPx hDx hPm hDm hdis hS hl
  obtain ⟨hx, hb, hr, hml, hown, hts, hX, hbl, hlocks, hgv⟩ := id C0
  have hown : s.vm.findClass RL = some m.cls := hown
  have hts := fun w h => hts w (wsL_law_in w h)
  have hA : ∀ q : Nat, s.heap.size ≤ q → (fun q : Nat => s.heap.size ≤ q) q := fun _ h => h
  have hbA : ¬ (fun q : Nat => s.heap.size ≤ q) b := Nat.not_le.mpr hbl
  refine lv_aload_n hx hb dL_law_680 rfl (lv_at hl 2 rfl) ?_
  refine lv_aload_n hx hb dL_law_681 rfl (lv_at hl 1 rfl) ?_
  refine lv_iload_n hx hb dL_law_682 rfl (lv_at hl 0 rfl) ?_
  refine lv_iconst (v := 1) hx hb dL_law_683 (by decide) ?_
  refine lv_iadd hx hb dL_law_684 ?_
  refine W.eq (g2 := F0 m 685 ls [.int (nI (i + 1)), .ref b, .ref (adx 0 0)]) (by rw [show (1 : Int32) = nI 1 from rfl, nI_add]) ?_
  refine va_sld hx hb hX hbl hbA hS (vp_in_nI (by omega) (by omega)) dL_law_685 ?_
  refine W.eq (g2 := F0 m 686 ls [.int (xs (i + 1)), .ref (adx 0 0)]) (by rw [nI_clamp (by omega)]) ?_
  refine lv_aload_n hx hb dL_law_686 rfl (lv_at hl 1 rfl) ?_
  refine lv_iload_n hx hb dL_law_687 rfl (lv_at hl 0 rfl) ?_
  refine lv_iconst (v := 2) hx hb dL_law_688 (by decide) ?_
  refine lv_iadd hx hb dL_law_689 ?_
  refine W.eq (g2 := F0 m 690 ls [.int (nI (i + 2)), .ref b, .int (xs (i + 1)), .ref (adx 0 0)]) (by rw [show (2 : Int32) = nI 2 from rfl, nI_add]) ?_
  refine va_sld hx hb hX hbl hbA hS (vp_in_nI (by omega) (by omega)) dL_law_690 ?_
  refine W.eq (g2 := F0 m 691 ls [.int (xs (i + 2)), .int (xs (i + 1)), .ref (adx 0 0)]) (by rw [nI_clamp (by omega)]) ?_
  refine lv_aload_n hx hb dL_law_691 rfl (lv_at hl 1 rfl) ?_
  refine lv_iload_n hx hb dL_law_692 rfl (lv_at hl 0 rfl) ?_
  refine lv_iconst (v := 3) hx hb dL_law_693 (by decide) ?_
  refine lv_iadd hx hb dL_law_694 ?_
  refine W.eq (g2 := F0 m 695 ls [.int (nI (i + 3)), .ref b, .int (xs (i + 2)), .int (xs (i + 1)), .ref (adx 0 0)]) (by rw [show (3 : Int32) = nI 3 from rfl, nI_add]) ?_
  refine va_sld hx hb hX hbl hbA hS (vp_in_nI (by omega) (by omega)) dL_law_695 ?_
  refine W.eq (g2 := F0 m 696 ls [.int (xs (i + 3)), .int (xs (i + 2)), .int (xs (i + 1)), .ref (adx 0 0)]) (by rw [nI_clamp (by omega)]) ?_
  refine lv_aload_n hx hb dL_law_696 rfl (lv_at hl 1 rfl) ?_
  refine lv_iload_n hx hb dL_law_697 rfl (lv_at hl 0 rfl) ?_
  refine lv_iconst (v := 4) hx hb dL_law_698 (by decide) ?_
  refine lv_iadd hx hb dL_law_699 ?_
  refine W.eq (g2 := F0 m 700 ls [.int (nI (i + 4)), .ref b, .int (xs (i + 3)), .int (xs (i + 2)), .int (xs (i + 1)), .ref (adx 0 0)]) (by rw [show (4 : Int32) = nI 4 from rfl, nI_add]) ?_
  refine va_sld hx hb hX hbl hbA hS (vp_in_nI (by omega) (by omega)) dL_law_700 ?_
  refine W.eq (g2 := F0 m 701 ls [.int (xs (i + 4)), .int (xs (i + 3)), .int (xs (i + 2)), .int (xs (i + 1)), .ref (adx 0 0)]) (by rw [nI_clamp (by omega)]) ?_
  refine fw_calli2 (va_runV (As := [.int (xs (i + 1)), .int (xs (i + 2)), .int (xs (i + 3)), .int (xs (i + 4))]) (rest := []) ⟨hx, hb, hml, hown, hts⟩ (c_X4_add l D kk adx n I O hjx hY (xs (i + 1)) (xs (i + 2)) (xs (i + 3)) (xs (i + 4)) _) (cwV 4 hts gL_law_X4_add rfl rfl rfl (by decide +kernel) ⟨Nat.le_of_ble_eq_true rfl, Nat.le_of_ble_eq_true rfl⟩) (fw_preV hK hPx (ci := 4) rfl (x_at0 hjx)) rfl rfl hl.1 rfl (lv_room (Nat.le_of_ble_eq_true rfl)) dL_law_701 ⟨by show 35 + i + 0 ≤ 639303; omega, by show 639 + 6 * i + 0 ≤ 7184338; omega⟩) hDx hS hA hPm hdis (fun r w1 H locs hq hPx hDx hS hPm hdis => ?_)
  obtain ⟨I1, O1, e1, rfl⟩ := hq
  refine lv_aload_n hx hb dL_law_704 rfl (lv_at hl 3 rfl) ?_
  refine lv_aload_n hx hb dL_law_705 rfl (lv_at hl 1 rfl) ?_
  refine lv_iload_n hx hb dL_law_706 rfl (lv_at hl 0 rfl) ?_
  refine lv_iconst (v := 1) hx hb dL_law_707 (by decide) ?_
  refine lv_iadd hx hb dL_law_708 ?_
  refine W.eq (g2 := F0 m 709 ls [.int (nI (i + 1)), .ref b, .ref (adm 0 0), .int r]) (by rw [show (1 : Int32) = nI 1 from rfl, nI_add]) ?_
  refine va_sld hx hb hX hbl hbA hS (vp_in_nI (by omega) (by omega)) dL_law_709 ?_
  refine W.eq (g2 := F0 m 710 ls [.int (xs (i + 1)), .ref (adm 0 0), .int r]) (by rw [nI_clamp (by omega)]) ?_
  refine lv_aload_n hx hb dL_law_710 rfl (lv_at hl 1 rfl) ?_
  refine lv_iload_n hx hb dL_law_711 rfl (lv_at hl 0 rfl) ?_
  refine lv_iconst (v := 2) hx hb dL_law_712 (by decide) ?_
  refine lv_iadd hx hb dL_law_713 ?_
  refine W.eq (g2 := F0 m 714 ls [.int (nI (i + 2)), .ref b, .int (xs (i + 1)), .ref (adm 0 0), .int r]) (by rw [show (2 : Int32) = nI 2 from rfl, nI_add]) ?_
  refine va_sld hx hb hX hbl hbA hS (vp_in_nI (by omega) (by omega)) dL_law_714 ?_
  refine W.eq (g2 := F0 m 715 ls [.int (xs (i + 2)), .int (xs (i + 1)), .ref (adm 0 0), .int r]) (by rw [nI_clamp (by omega)]) ?_
  refine lv_aload_n hx hb dL_law_715 rfl (lv_at hl 1 rfl) ?_
  refine lv_iload_n hx hb dL_law_716 rfl (lv_at hl 0 rfl) ?_
  refine lv_iconst (v := 3) hx hb dL_law_717 (by decide) ?_
  refine lv_iadd hx hb dL_law_718 ?_
  refine W.eq (g2 := F0 m 719 ls [.int (nI (i + 3)), .ref b, .int (xs (i + 2)), .int (xs (i + 1)), .ref (adm 0 0), .int r]) (by rw [show (3 : Int32) = nI 3 from rfl, nI_add]) ?_
  refine va_sld hx hb hX hbl hbA hS (vp_in_nI (by omega) (by omega)) dL_law_719 ?_
  refine W.eq (g2 := F0 m 720 ls [.int (xs (i + 3)), .int (xs (i + 2)), .int (xs (i + 1)), .ref (adm 0 0), .int r]) (by rw [nI_clamp (by omega)]) ?_
  refine lv_aload_n hx hb dL_law_720 rfl (lv_at hl 1 rfl) ?_
  refine lv_iload_n hx hb dL_law_721 rfl (lv_at hl 0 rfl) ?_
  refine lv_iconst (v := 4) hx hb dL_law_722 (by decide) ?_
  refine lv_iadd hx hb dL_law_723 ?_
  refine W.eq (g2 := F0 m 724 ls [.int (nI (i + 4)), .ref b, .int (xs (i + 3)), .int (xs (i + 2)), .int (xs (i + 1)), .ref (adm 0 0), .int r]) (by rw [show (4 : Int32) = nI 4 from rfl, nI_add]) ?_
  refine va_sld hx hb hX hbl hbA hS (vp_in_nI (by omega) (by omega)) dL_law_724 ?_
  refine W.eq (g2 := F0 m 725 ls [.int (xs (i + 4)), .int (xs (i + 3)), .int (xs (i + 2)), .int (xs (i + 1)), .ref (adm 0 0), .int r]) (by rw [nI_clamp (by omega)]) ?_
  refine fw_calli2 (va_runV (As := [.int (xs (i + 1)), .int (xs (i + 2)), .int (xs (i + 3)), .int (xs (i + 4))]) (rest := [.int r]) ⟨hx, hb, hml, hown, hts⟩ (c_X5_add l D kk adm n I O J hjm hY hR (xs (i + 1)) (xs (i + 2)) (xs (i + 3)) (xs (i + 4)) _) (cwV 4 hts gL_law_X5_add rfl rfl rfl (by decide +kernel) ⟨Nat.le_of_ble_eq_true rfl, Nat.le_of_ble_eq_true rfl⟩) (fw_preV hK hPm (ci := 5) rfl (m_at0 hjm)) rfl rfl hl.1 rfl (lv_room (Nat.le_of_ble_eq_true rfl)) dL_law_725 ⟨by show 35 + i + 0 + 0 ≤ 639303; omega, by show 639 + 6 * i + 0 + 0 ≤ 7184338; omega⟩) hDm hS hA hPx (fun a x y h1 h2 => hdis a y x h2 h1) (fun r2 w1 H locs hq hPm hDm hS hPx hdis => ?_)
  obtain ⟨I2, O2, J2, e2, hR2, rfl⟩ := hq
  rw [e1] at e2
  cases e2
  refine lv_icmp_eq (tgt := 845) hx hb dL_law_728 (by decide) (fun _ => ?_) (fun c9 => absurd rfl c9)
  refine lv_iinc (v := nI (i + 5)) (lv' := [(3, .int (nI (i + 5))), (0, .ref b), (1, .ref (adx 0 0)), (2, .ref (adm 0 0))]) hx hb dL_law_845 hl (k := 0) rfl (nI_add i 5) (by decide) rfl (fun ls hl => ?_)
  refine lv_goto (tgt := 18) hx hb dL_law_848 (by decide) ?_
  refine W.widen (k := 35 + (i + 5)) (n := 639 + 6 * (i + 5)) (by omega) (by omega) ?_
  exact kk9 adx adm n I1 O1 J2 H locs ls hjx hjm (ys_add hY e1) hR2 hPx hDx hPm hDm (fun a x y h1 h2 => hdis a y x h2 h1) hS hl
set_option maxHeartbeats 4000000 in
set_option maxRecDepth 100000 in
theorem law_raise {p : Program} {e : Env} {s : State} {m : MethodId} {below : List Frame} {meth : Method} {c : Code} (l : Launch) {b L : Nat} {xs : Nat → Int32} (hL : L ≤ 2560) (C0 : lw_At p s m meth c b L xs) (D : va_G) (kk : Nat → ClassId) (hK : va_K D vwCl (xT kk) s) (i : Nat) (hi5 : i + 5 ≤ L) (kk9 : ∀ (adx adm : Nat → Nat → Nat) (n : Nat) (I : sI) (O : sO) (J : sI) (H : Heap) (locs : List Loc) (ls : Array Slot), sj (xV n) adx → sj mV adm → yI n I O → mR n I O J → fw_P D vwCl (xw kk adx n I O) H → fw_D (fun q : Nat => s.heap.size ≤ q) (xw kk adx n I O) → fw_P D vwCl (mw kk adm J) H → fw_D (fun q : Nat => s.heap.size ≤ q) (mw kk adm J) → (∀ (a : Nat) (x y : va_E), xw kk adx n I O a = some x → mw kk adm J a = some y → False) → va_S (fun q : Nat => s.heap.size ≤ q) s.heap H locs → lv_has ls 4 [(3, .int (nI (i + 5))), (0, .ref b), (1, .ref (adx 0 0)), (2, .ref (adm 0 0))] → W p l e room_1 s m #[Value.ref b] below meth c H locs (35 + (i + 5)) (639 + 6 * (i + 5)) (lw_Z below #[Value.ref b] s) (F0 m 18 ls [])) : ∀ (adx adm : Nat → Nat → Nat) (n : Nat) (I : sI) (O : sO) (J : sI) (H : Heap) (locs : List Loc) (ls : Array Slot), sj (xV n) adx → sj mV adm → yI n I O → mR n I O J → fw_P D vwCl (xw kk adx n I O) H → fw_D (fun q : Nat => s.heap.size ≤ q) (xw kk adx n I O) → fw_P D vwCl (mw kk adm J) H → fw_D (fun q : Nat => s.heap.size ≤ q) (mw kk adm J) → (∀ (a : Nat) (x y : va_E), xw kk adx n I O a = some x → mw kk adm J a = some y → False) → va_S (fun q : Nat => s.heap.size ≤ q) s.heap H locs → lv_has ls 4 [(3, .int (nI i)), (0, .ref b), (1, .ref (adx 0 0)), (2, .ref (adm 0 0))] → W p l e room_1 s m #[Value.ref b] below meth c H locs (35 + i) (639 + 6 * i) (lw_Z below #[Value.ref b] s) (F0 m 733 ls []) := by
  intro adx adm n I O J H locs ls hjx hjm hY hR hPx hDx hPm hDm hdis hS hl
  obtain ⟨hx, hb, hr, hml, hown, hts, hX, hbl, hlocks, hgv⟩ := id C0
  have hown : s.vm.findClass RL = some m.cls := hown
  have hts := fun w h => hts w (wsL_law_in w h)
  have hA : ∀ q : Nat, s.heap.size ≤ q → (fun q : Nat => s.heap.size ≤ q) q := fun _ h => h
  have hbA : ¬ (fun q : Nat => s.heap.size ≤ q) b := Nat.not_le.mpr hbl
  refine lv_aload_n hx hb dL_law_733 rfl (lv_at hl 2 rfl) ?_
  refine lv_aload_n hx hb dL_law_734 rfl (lv_at hl 1 rfl) ?_
  refine lv_iload_n hx hb dL_law_735 rfl (lv_at hl 0 rfl) ?_
  refine lv_iconst (v := 1) hx hb dL_law_736 (by decide) ?_
  refine lv_iadd hx hb dL_law_737 ?_
  refine W.eq (g2 := F0 m 738 ls [.int (nI (i + 1)), .ref b, .ref (adx 0 0)]) (by rw [show (1 : Int32) = nI 1 from rfl, nI_add]) ?_
  refine va_sld hx hb hX hbl hbA hS (vp_in_nI (by omega) (by omega)) dL_law_738 ?_
  refine W.eq (g2 := F0 m 739 ls [.int (xs (i + 1)), .ref (adx 0 0)]) (by rw [nI_clamp (by omega)]) ?_
  refine fw_calli2 (va_runV (As := [.int (xs (i + 1))]) (rest := []) ⟨hx, hb, hml, hown, hts⟩ (c_X4_raise l D kk adx n I O hjx hY (xs (i + 1)) _) (cwV 1 hts gL_law_X4_raise rfl rfl rfl (by decide +kernel) ⟨Nat.le_of_ble_eq_true rfl, Nat.le_of_ble_eq_true rfl⟩) (fw_preV hK hPx (ci := 4) rfl (x_at0 hjx)) rfl rfl hl.1 rfl (lv_room (Nat.le_of_ble_eq_true rfl)) dL_law_739 ⟨by show 35 + i + 0 ≤ 639303; omega, by show 639 + 6 * i + 0 ≤ 7184338; omega⟩) hDx hS hA hPm hdis (fun r w1 H locs hq hPx hDx hS hPm hdis => ?_)
  obtain ⟨I1, O1, e1, rfl⟩ := hq
  refine lv_aload_n hx hb dL_law_742 rfl (lv_at hl 3 rfl) ?_
  refine lv_aload_n hx hb dL_law_743 rfl (lv_at hl 1 rfl) ?_
  refine lv_iload_n hx hb dL_law_744 rfl (lv_at hl 0 rfl) ?_
  refine lv_iconst (v := 1) hx hb dL_law_745 (by decide) ?_
  refine lv_iadd hx hb dL_law_746 ?_
  refine W.eq (g2 := F0 m 747 ls [.int (nI (i + 1)), .ref b, .ref (adm 0 0), .int r]) (by rw [show (1 : Int32) = nI 1 from rfl, nI_add]) ?_
  refine va_sld hx hb hX hbl hbA hS (vp_in_nI (by omega) (by omega)) dL_law_747 ?_
  refine W.eq (g2 := F0 m 748 ls [.int (xs (i + 1)), .ref (adm 0 0), .int r]) (by rw [nI_clamp (by omega)]) ?_
  refine fw_calli2 (va_runV (As := [.int (xs (i + 1))]) (rest := [.int r]) ⟨hx, hb, hml, hown, hts⟩ (c_X5_raise l D kk adm n I O J hjm hY hR (xs (i + 1)) _) (cwV 1 hts gL_law_X5_raise rfl rfl rfl (by decide +kernel) ⟨Nat.le_of_ble_eq_true rfl, Nat.le_of_ble_eq_true rfl⟩) (fw_preV hK hPm (ci := 5) rfl (m_at0 hjm)) rfl rfl hl.1 rfl (lv_room (Nat.le_of_ble_eq_true rfl)) dL_law_748 ⟨by show 35 + i + 0 + 0 ≤ 639303; omega, by show 639 + 6 * i + 0 + 0 ≤ 7184338; omega⟩) hDm hS hA hPx (fun a x y h1 h2 => hdis a y x h2 h1) (fun r2 w1 H locs hq hPm hDm hS hPx hdis => ?_)
  obtain ⟨I2, O2, J2, e2, hR2, rfl⟩ := hq
  rw [e1] at e2
  cases e2
  refine lv_icmp_eq (tgt := 845) hx hb dL_law_751 (by decide) (fun _ => ?_) (fun c9 => absurd rfl c9)
  refine lv_iinc (v := nI (i + 5)) (lv' := [(3, .int (nI (i + 5))), (0, .ref b), (1, .ref (adx 0 0)), (2, .ref (adm 0 0))]) hx hb dL_law_845 hl (k := 0) rfl (nI_add i 5) (by decide) rfl (fun ls hl => ?_)
  refine lv_goto (tgt := 18) hx hb dL_law_848 (by decide) ?_
  refine W.widen (k := 35 + (i + 5)) (n := 639 + 6 * (i + 5)) (by omega) (by omega) ?_
  exact kk9 adx adm n I1 O1 J2 H locs ls hjx hjm (ys_raise hY e1) hR2 hPx hDx hPm hDm (fun a x y h1 h2 => hdis a y x h2 h1) hS hl
set_option maxHeartbeats 4000000 in
set_option maxRecDepth 100000 in
theorem law_told {p : Program} {e : Env} {s : State} {m : MethodId} {below : List Frame} {meth : Method} {c : Code} (l : Launch) {b L : Nat} {xs : Nat → Int32} (hL : L ≤ 2560) (C0 : lw_At p s m meth c b L xs) (D : va_G) (kk : Nat → ClassId) (hK : va_K D vwCl (xT kk) s) (i : Nat) (hi5 : i + 5 ≤ L) (kk9 : ∀ (adx adm : Nat → Nat → Nat) (n : Nat) (I : sI) (O : sO) (J : sI) (H : Heap) (locs : List Loc) (ls : Array Slot), sj (xV n) adx → sj mV adm → yI n I O → mR n I O J → fw_P D vwCl (xw kk adx n I O) H → fw_D (fun q : Nat => s.heap.size ≤ q) (xw kk adx n I O) → fw_P D vwCl (mw kk adm J) H → fw_D (fun q : Nat => s.heap.size ≤ q) (mw kk adm J) → (∀ (a : Nat) (x y : va_E), xw kk adx n I O a = some x → mw kk adm J a = some y → False) → va_S (fun q : Nat => s.heap.size ≤ q) s.heap H locs → lv_has ls 4 [(3, .int (nI (i + 5))), (0, .ref b), (1, .ref (adx 0 0)), (2, .ref (adm 0 0))] → W p l e room_1 s m #[Value.ref b] below meth c H locs (35 + (i + 5)) (639 + 6 * (i + 5)) (lw_Z below #[Value.ref b] s) (F0 m 18 ls [])) : ∀ (adx adm : Nat → Nat → Nat) (n : Nat) (I : sI) (O : sO) (J : sI) (H : Heap) (locs : List Loc) (ls : Array Slot), sj (xV n) adx → sj mV adm → yI n I O → mR n I O J → fw_P D vwCl (xw kk adx n I O) H → fw_D (fun q : Nat => s.heap.size ≤ q) (xw kk adx n I O) → fw_P D vwCl (mw kk adm J) H → fw_D (fun q : Nat => s.heap.size ≤ q) (mw kk adm J) → (∀ (a : Nat) (x y : va_E), xw kk adx n I O a = some x → mw kk adm J a = some y → False) → va_S (fun q : Nat => s.heap.size ≤ q) s.heap H locs → lv_has ls 4 [(3, .int (nI i)), (0, .ref b), (1, .ref (adx 0 0)), (2, .ref (adm 0 0))] → W p l e room_1 s m #[Value.ref b] below meth c H locs (35 + i) (639 + 6 * i) (lw_Z below #[Value.ref b] s) (F0 m 756 ls []) := by
  intro adx adm n I O J H locs ls hjx hjm hY hR hPx hDx hPm hDm hdis hS hl
  obtain ⟨hx, hb, hr, hml, hown, hts, hX, hbl, hlocks, hgv⟩ := id C0
  have hown : s.vm.findClass RL = some m.cls := hown
  have hts := fun w h => hts w (wsL_law_in w h)
  have hA : ∀ q : Nat, s.heap.size ≤ q → (fun q : Nat => s.heap.size ≤ q) q := fun _ h => h
  have hbA : ¬ (fun q : Nat => s.heap.size ≤ q) b := Nat.not_le.mpr hbl
  refine lv_aload_n hx hb dL_law_756 rfl (lv_at hl 2 rfl) ?_
  refine lv_aload_n hx hb dL_law_757 rfl (lv_at hl 1 rfl) ?_
  refine lv_iload_n hx hb dL_law_758 rfl (lv_at hl 0 rfl) ?_
  refine lv_iconst (v := 1) hx hb dL_law_759 (by decide) ?_
  refine lv_iadd hx hb dL_law_760 ?_
  refine W.eq (g2 := F0 m 761 ls [.int (nI (i + 1)), .ref b, .ref (adx 0 0)]) (by rw [show (1 : Int32) = nI 1 from rfl, nI_add]) ?_
  refine va_sld hx hb hX hbl hbA hS (vp_in_nI (by omega) (by omega)) dL_law_761 ?_
  refine W.eq (g2 := F0 m 762 ls [.int (xs (i + 1)), .ref (adx 0 0)]) (by rw [nI_clamp (by omega)]) ?_
  refine fw_calli2 (va_runV (As := [.int (xs (i + 1))]) (rest := []) ⟨hx, hb, hml, hown, hts⟩ (c_X4_told l D kk adx n I O hjx hY (xs (i + 1)) _) (cwV 1 hts gL_law_X4_told rfl rfl rfl (by decide +kernel) ⟨Nat.le_of_ble_eq_true rfl, Nat.le_of_ble_eq_true rfl⟩) (fw_preV hK hPx (ci := 4) rfl (x_at0 hjx)) rfl rfl hl.1 rfl (lv_room (Nat.le_of_ble_eq_true rfl)) dL_law_762 ⟨by show 35 + i + 0 ≤ 639303; omega, by show 639 + 6 * i + 0 ≤ 7184338; omega⟩) hDx hS hA hPm hdis (fun r w1 H locs hq hPx hDx hS hPm hdis => ?_)
  obtain ⟨e1, rfl⟩ := hq
  refine lv_aload_n hx hb dL_law_765 rfl (lv_at hl 3 rfl) ?_
  refine lv_aload_n hx hb dL_law_766 rfl (lv_at hl 1 rfl) ?_
  refine lv_iload_n hx hb dL_law_767 rfl (lv_at hl 0 rfl) ?_
  refine lv_iconst (v := 1) hx hb dL_law_768 (by decide) ?_
  refine lv_iadd hx hb dL_law_769 ?_
  refine W.eq (g2 := F0 m 770 ls [.int (nI (i + 1)), .ref b, .ref (adm 0 0), .int r]) (by rw [show (1 : Int32) = nI 1 from rfl, nI_add]) ?_
  refine va_sld hx hb hX hbl hbA hS (vp_in_nI (by omega) (by omega)) dL_law_770 ?_
  refine W.eq (g2 := F0 m 771 ls [.int (xs (i + 1)), .ref (adm 0 0), .int r]) (by rw [nI_clamp (by omega)]) ?_
  refine fw_calli2 (va_runV (As := [.int (xs (i + 1))]) (rest := [.int r]) ⟨hx, hb, hml, hown, hts⟩ (c_X5_told l D kk adm n I O J hjm hY hR (xs (i + 1)) _) (cwV 1 hts gL_law_X5_told rfl rfl rfl (by decide +kernel) ⟨Nat.le_of_ble_eq_true rfl, Nat.le_of_ble_eq_true rfl⟩) (fw_preV hK hPm (ci := 5) rfl (m_at0 hjm)) rfl rfl hl.1 rfl (lv_room (Nat.le_of_ble_eq_true rfl)) dL_law_771 ⟨by show 35 + i + 0 + 0 ≤ 639303; omega, by show 639 + 6 * i + 0 + 0 ≤ 7184338; omega⟩) hDm hS hA hPx (fun a x y h1 h2 => hdis a y x h2 h1) (fun r2 w1 H locs hq hPm hDm hS hPx hdis => ?_)
  obtain ⟨e2, rfl⟩ := hq
  rw [e1] at e2
  subst e2
  refine lv_icmp_eq (tgt := 845) hx hb dL_law_774 (by decide) (fun _ => ?_) (fun c9 => absurd rfl c9)
  refine lv_iinc (v := nI (i + 5)) (lv' := [(3, .int (nI (i + 5))), (0, .ref b), (1, .ref (adx 0 0)), (2, .ref (adm 0 0))]) hx hb dL_law_845 hl (k := 0) rfl (nI_add i 5) (by decide) rfl (fun ls hl => ?_)
  refine lv_goto (tgt := 18) hx hb dL_law_848 (by decide) ?_
  refine W.widen (k := 35 + (i + 5)) (n := 639 + 6 * (i + 5)) (by omega) (by omega) ?_
  exact kk9 adx adm n I O J H locs ls hjx hjm hY hR hPx hDx hPm hDm (fun a x y h1 h2 => hdis a y x h2 h1) hS hl
set_option maxHeartbeats 4000000 in
set_option maxRecDepth 100000 in
theorem law_about {p : Program} {e : Env} {s : State} {m : MethodId} {below : List Frame} {meth : Method} {c : Code} (l : Launch) {b L : Nat} {xs : Nat → Int32} (hL : L ≤ 2560) (C0 : lw_At p s m meth c b L xs) (D : va_G) (kk : Nat → ClassId) (hK : va_K D vwCl (xT kk) s) (i : Nat) (hi5 : i + 5 ≤ L) (kk9 : ∀ (adx adm : Nat → Nat → Nat) (n : Nat) (I : sI) (O : sO) (J : sI) (H : Heap) (locs : List Loc) (ls : Array Slot), sj (xV n) adx → sj mV adm → yI n I O → mR n I O J → fw_P D vwCl (xw kk adx n I O) H → fw_D (fun q : Nat => s.heap.size ≤ q) (xw kk adx n I O) → fw_P D vwCl (mw kk adm J) H → fw_D (fun q : Nat => s.heap.size ≤ q) (mw kk adm J) → (∀ (a : Nat) (x y : va_E), xw kk adx n I O a = some x → mw kk adm J a = some y → False) → va_S (fun q : Nat => s.heap.size ≤ q) s.heap H locs → lv_has ls 4 [(3, .int (nI (i + 5))), (0, .ref b), (1, .ref (adx 0 0)), (2, .ref (adm 0 0))] → W p l e room_1 s m #[Value.ref b] below meth c H locs (35 + (i + 5)) (639 + 6 * (i + 5)) (lw_Z below #[Value.ref b] s) (F0 m 18 ls [])) : ∀ (adx adm : Nat → Nat → Nat) (n : Nat) (I : sI) (O : sO) (J : sI) (H : Heap) (locs : List Loc) (ls : Array Slot), sj (xV n) adx → sj mV adm → yI n I O → mR n I O J → fw_P D vwCl (xw kk adx n I O) H → fw_D (fun q : Nat => s.heap.size ≤ q) (xw kk adx n I O) → fw_P D vwCl (mw kk adm J) H → fw_D (fun q : Nat => s.heap.size ≤ q) (mw kk adm J) → (∀ (a : Nat) (x y : va_E), xw kk adx n I O a = some x → mw kk adm J a = some y → False) → va_S (fun q : Nat => s.heap.size ≤ q) s.heap H locs → lv_has ls 4 [(3, .int (nI i)), (0, .ref b), (1, .ref (adx 0 0)), (2, .ref (adm 0 0))] → W p l e room_1 s m #[Value.ref b] below meth c H locs (35 + i) (639 + 6 * i) (lw_Z below #[Value.ref b] s) (F0 m 779 ls []) := by
  intro adx adm n I O J H locs ls hjx hjm hY hR hPx hDx hPm hDm hdis hS hl
  obtain ⟨hx, hb, hr, hml, hown, hts, hX, hbl, hlocks, hgv⟩ := id C0
  have hown : s.vm.findClass RL = some m.cls := hown
  have hts := fun w h => hts w (wsL_law_in w h)
  have hA : ∀ q : Nat, s.heap.size ≤ q → (fun q : Nat => s.heap.size ≤ q) q := fun _ h => h
  have hbA : ¬ (fun q : Nat => s.heap.size ≤ q) b := Nat.not_le.mpr hbl
  refine lv_aload_n hx hb dL_law_779 rfl (lv_at hl 2 rfl) ?_
  refine lv_aload_n hx hb dL_law_780 rfl (lv_at hl 1 rfl) ?_
  refine lv_iload_n hx hb dL_law_781 rfl (lv_at hl 0 rfl) ?_
  refine lv_iconst (v := 1) hx hb dL_law_782 (by decide) ?_
  refine lv_iadd hx hb dL_law_783 ?_
  refine W.eq (g2 := F0 m 784 ls [.int (nI (i + 1)), .ref b, .ref (adx 0 0)]) (by rw [show (1 : Int32) = nI 1 from rfl, nI_add]) ?_
  refine va_sld hx hb hX hbl hbA hS (vp_in_nI (by omega) (by omega)) dL_law_784 ?_
  refine W.eq (g2 := F0 m 785 ls [.int (xs (i + 1)), .ref (adx 0 0)]) (by rw [nI_clamp (by omega)]) ?_
  refine lv_aload_n hx hb dL_law_785 rfl (lv_at hl 1 rfl) ?_
  refine lv_iload_n hx hb dL_law_786 rfl (lv_at hl 0 rfl) ?_
  refine lv_iconst (v := 2) hx hb dL_law_787 (by decide) ?_
  refine lv_iadd hx hb dL_law_788 ?_
  refine W.eq (g2 := F0 m 789 ls [.int (nI (i + 2)), .ref b, .int (xs (i + 1)), .ref (adx 0 0)]) (by rw [show (2 : Int32) = nI 2 from rfl, nI_add]) ?_
  refine va_sld hx hb hX hbl hbA hS (vp_in_nI (by omega) (by omega)) dL_law_789 ?_
  refine W.eq (g2 := F0 m 790 ls [.int (xs (i + 2)), .int (xs (i + 1)), .ref (adx 0 0)]) (by rw [nI_clamp (by omega)]) ?_
  refine fw_calli2 (va_runV (As := [.int (xs (i + 1)), .int (xs (i + 2))]) (rest := []) ⟨hx, hb, hml, hown, hts⟩ (c_X4_about l D kk adx n I O hjx hY (xs (i + 1)) (xs (i + 2)) _) (cwV 2 hts gL_law_X4_about rfl rfl rfl (by decide +kernel) ⟨Nat.le_of_ble_eq_true rfl, Nat.le_of_ble_eq_true rfl⟩) (fw_preV hK hPx (ci := 4) rfl (x_at0 hjx)) rfl rfl hl.1 rfl (lv_room (Nat.le_of_ble_eq_true rfl)) dL_law_790 ⟨by show 35 + i + 0 ≤ 639303; omega, by show 639 + 6 * i + 0 ≤ 7184338; omega⟩) hDx hS hA hPm hdis (fun r w1 H locs hq hPx hDx hS hPm hdis => ?_)
  obtain ⟨e1, rfl⟩ := hq
  refine lv_aload_n hx hb dL_law_793 rfl (lv_at hl 3 rfl) ?_
  refine lv_aload_n hx hb dL_law_794 rfl (lv_at hl 1 rfl) ?_
  refine lv_iload_n hx hb dL_law_795 rfl (lv_at hl 0 rfl) ?_
  refine lv_iconst (v := 1) hx hb dL_law_796 (by decide) ?_
  refine lv_iadd hx hb dL_law_797 ?_
  refine W.eq (g2 := F0 m 798 ls [.int (nI (i + 1)), .ref b, .ref (adm 0 0), .int r]) (by rw [show (1 : Int32) = nI 1 from rfl, nI_add]) ?_
  refine va_sld hx hb hX hbl hbA hS (vp_in_nI (by omega) (by omega)) dL_law_798 ?_
  refine W.eq (g2 := F0 m 799 ls [.int (xs (i + 1)), .ref (adm 0 0), .int r]) (by rw [nI_clamp (by omega)]) ?_
  refine lv_aload_n hx hb dL_law_799 rfl (lv_at hl 1 rfl) ?_
  refine lv_iload_n hx hb dL_law_800 rfl (lv_at hl 0 rfl) ?_
  refine lv_iconst (v := 2) hx hb dL_law_801 (by decide) ?_
  refine lv_iadd hx hb dL_law_802 ?_
  refine W.eq (g2 := F0 m 803 ls [.int (nI (i + 2)), .ref b, .int (xs (i + 1)), .ref (adm 0 0), .int r]) (by rw [show (2 : Int32) = nI 2 from rfl, nI_add]) ?_
  refine va_sld hx hb hX hbl hbA hS (vp_in_nI (by omega) (by omega)) dL_law_803 ?_
  refine W.eq (g2 := F0 m 804 ls [.int (xs (i + 2)), .int (xs (i + 1)), .ref (adm 0 0), .int r]) (by rw [nI_clamp (by omega)]) ?_
  refine fw_calli2 (va_runV (As := [.int (xs (i + 1)), .int (xs (i + 2))]) (rest := [.int r]) ⟨hx, hb, hml, hown, hts⟩ (c_X5_about l D kk adm n I O J hjm hY hR (xs (i + 1)) (xs (i + 2)) _) (cwV 2 hts gL_law_X5_about rfl rfl rfl (by decide +kernel) ⟨Nat.le_of_ble_eq_true rfl, Nat.le_of_ble_eq_true rfl⟩) (fw_preV hK hPm (ci := 5) rfl (m_at0 hjm)) rfl rfl hl.1 rfl (lv_room (Nat.le_of_ble_eq_true rfl)) dL_law_804 ⟨by show 35 + i + 0 + 0 ≤ 639303; omega, by show 639 + 6 * i + 0 + 0 ≤ 7184338; omega⟩) hDm hS hA hPx (fun a x y h1 h2 => hdis a y x h2 h1) (fun r2 w1 H locs hq hPm hDm hS hPx hdis => ?_)
  obtain ⟨e2, rfl⟩ := hq
  rw [e1] at e2
  subst e2
  refine lv_icmp_eq (tgt := 845) hx hb dL_law_807 (by decide) (fun _ => ?_) (fun c9 => absurd rfl c9)
  refine lv_iinc (v := nI (i + 5)) (lv' := [(3, .int (nI (i + 5))), (0, .ref b), (1, .ref (adx 0 0)), (2, .ref (adm 0 0))]) hx hb dL_law_845 hl (k := 0) rfl (nI_add i 5) (by decide) rfl (fun ls hl => ?_)
  refine lv_goto (tgt := 18) hx hb dL_law_848 (by decide) ?_
  refine W.widen (k := 35 + (i + 5)) (n := 639 + 6 * (i + 5)) (by omega) (by omega) ?_
  exact kk9 adx adm n I O J H locs ls hjx hjm hY hR hPx hDx hPm hDm (fun a x y h1 h2 => hdis a y x h2 h1) hS hl
set_option maxHeartbeats 4000000 in
set_option maxRecDepth 100000 in
theorem law_onRake {p : Program} {e : Env} {s : State} {m : MethodId} {below : List Frame} {meth : Method} {c : Code} (l : Launch) {b L : Nat} {xs : Nat → Int32} (hL : L ≤ 2560) (C0 : lw_At p s m meth c b L xs) (D : va_G) (kk : Nat → ClassId) (hK : va_K D vwCl (xT kk) s) (i : Nat) (hi5 : i + 5 ≤ L) (kk9 : ∀ (adx adm : Nat → Nat → Nat) (n : Nat) (I : sI) (O : sO) (J : sI) (H : Heap) (locs : List Loc) (ls : Array Slot), sj (xV n) adx → sj mV adm → yI n I O → mR n I O J → fw_P D vwCl (xw kk adx n I O) H → fw_D (fun q : Nat => s.heap.size ≤ q) (xw kk adx n I O) → fw_P D vwCl (mw kk adm J) H → fw_D (fun q : Nat => s.heap.size ≤ q) (mw kk adm J) → (∀ (a : Nat) (x y : va_E), xw kk adx n I O a = some x → mw kk adm J a = some y → False) → va_S (fun q : Nat => s.heap.size ≤ q) s.heap H locs → lv_has ls 4 [(3, .int (nI (i + 5))), (0, .ref b), (1, .ref (adx 0 0)), (2, .ref (adm 0 0))] → W p l e room_1 s m #[Value.ref b] below meth c H locs (35 + (i + 5)) (639 + 6 * (i + 5)) (lw_Z below #[Value.ref b] s) (F0 m 18 ls [])) : ∀ (adx adm : Nat → Nat → Nat) (n : Nat) (I : sI) (O : sO) (J : sI) (H : Heap) (locs : List Loc) (ls : Array Slot), sj (xV n) adx → sj mV adm → yI n I O → mR n I O J → fw_P D vwCl (xw kk adx n I O) H → fw_D (fun q : Nat => s.heap.size ≤ q) (xw kk adx n I O) → fw_P D vwCl (mw kk adm J) H → fw_D (fun q : Nat => s.heap.size ≤ q) (mw kk adm J) → (∀ (a : Nat) (x y : va_E), xw kk adx n I O a = some x → mw kk adm J a = some y → False) → va_S (fun q : Nat => s.heap.size ≤ q) s.heap H locs → lv_has ls 4 [(3, .int (nI i)), (0, .ref b), (1, .ref (adx 0 0)), (2, .ref (adm 0 0))] → W p l e room_1 s m #[Value.ref b] below meth c H locs (35 + i) (639 + 6 * i) (lw_Z below #[Value.ref b] s) (F0 m 812 ls []) := by
  intro adx adm n I O J H locs ls hjx hjm hY hR hPx hDx hPm hDm hdis hS hl
  obtain ⟨hx, hb, hr, hml, hown, hts, hX, hbl, hlocks, hgv⟩ := id C0
  have hown : s.vm.findClass RL = some m.cls := hown
  have hts := fun w h => hts w (wsL_law_in w h)
  have hA : ∀ q : Nat, s.heap.size ≤ q → (fun q : Nat => s.heap.size ≤ q) q := fun _ h => h
  have hbA : ¬ (fun q : Nat => s.heap.size ≤ q) b := Nat.not_le.mpr hbl
  refine lv_aload_n hx hb dL_law_812 rfl (lv_at hl 2 rfl) ?_
  refine lv_aload_n hx hb dL_law_813 rfl (lv_at hl 1 rfl) ?_
  refine lv_iload_n hx hb dL_law_814 rfl (lv_at hl 0 rfl) ?_
  refine lv_iconst (v := 1) hx hb dL_law_815 (by decide) ?_
  refine lv_iadd hx hb dL_law_816 ?_
  refine W.eq (g2 := F0 m 817 ls [.int (nI (i + 1)), .ref b, .ref (adx 0 0)]) (by rw [show (1 : Int32) = nI 1 from rfl, nI_add]) ?_
  refine va_sld hx hb hX hbl hbA hS (vp_in_nI (by omega) (by omega)) dL_law_817 ?_
  refine W.eq (g2 := F0 m 818 ls [.int (xs (i + 1)), .ref (adx 0 0)]) (by rw [nI_clamp (by omega)]) ?_
  refine lv_aload_n hx hb dL_law_818 rfl (lv_at hl 1 rfl) ?_
  refine lv_iload_n hx hb dL_law_819 rfl (lv_at hl 0 rfl) ?_
  refine lv_iconst (v := 2) hx hb dL_law_820 (by decide) ?_
  refine lv_iadd hx hb dL_law_821 ?_
  refine W.eq (g2 := F0 m 822 ls [.int (nI (i + 2)), .ref b, .int (xs (i + 1)), .ref (adx 0 0)]) (by rw [show (2 : Int32) = nI 2 from rfl, nI_add]) ?_
  refine va_sld hx hb hX hbl hbA hS (vp_in_nI (by omega) (by omega)) dL_law_822 ?_
  refine W.eq (g2 := F0 m 823 ls [.int (xs (i + 2)), .int (xs (i + 1)), .ref (adx 0 0)]) (by rw [nI_clamp (by omega)]) ?_
  refine fw_calli2 (va_runV (As := [.int (xs (i + 1)), .int (xs (i + 2))]) (rest := []) ⟨hx, hb, hml, hown, hts⟩ (c_X4_onRake l D kk adx n I O hjx hY (xs (i + 1)) (xs (i + 2)) _) (cwV 2 hts gL_law_X4_onRake rfl rfl rfl (by decide +kernel) ⟨Nat.le_of_ble_eq_true rfl, Nat.le_of_ble_eq_true rfl⟩) (fw_preV hK hPx (ci := 4) rfl (x_at0 hjx)) rfl rfl hl.1 rfl (lv_room (Nat.le_of_ble_eq_true rfl)) dL_law_823 ⟨by show 35 + i + 0 ≤ 639303; omega, by show 639 + 6 * i + 0 ≤ 7184338; omega⟩) hDx hS hA hPm hdis (fun r w1 H locs hq hPx hDx hS hPm hdis => ?_)
  obtain ⟨e1, rfl⟩ := hq
  refine lv_aload_n hx hb dL_law_826 rfl (lv_at hl 3 rfl) ?_
  refine lv_aload_n hx hb dL_law_827 rfl (lv_at hl 1 rfl) ?_
  refine lv_iload_n hx hb dL_law_828 rfl (lv_at hl 0 rfl) ?_
  refine lv_iconst (v := 1) hx hb dL_law_829 (by decide) ?_
  refine lv_iadd hx hb dL_law_830 ?_
  refine W.eq (g2 := F0 m 831 ls [.int (nI (i + 1)), .ref b, .ref (adm 0 0), .int r]) (by rw [show (1 : Int32) = nI 1 from rfl, nI_add]) ?_
  refine va_sld hx hb hX hbl hbA hS (vp_in_nI (by omega) (by omega)) dL_law_831 ?_
  refine W.eq (g2 := F0 m 832 ls [.int (xs (i + 1)), .ref (adm 0 0), .int r]) (by rw [nI_clamp (by omega)]) ?_
  refine lv_aload_n hx hb dL_law_832 rfl (lv_at hl 1 rfl) ?_
  refine lv_iload_n hx hb dL_law_833 rfl (lv_at hl 0 rfl) ?_
  refine lv_iconst (v := 2) hx hb dL_law_834 (by decide) ?_
  refine lv_iadd hx hb dL_law_835 ?_
  refine W.eq (g2 := F0 m 836 ls [.int (nI (i + 2)), .ref b, .int (xs (i + 1)), .ref (adm 0 0), .int r]) (by rw [show (2 : Int32) = nI 2 from rfl, nI_add]) ?_
  refine va_sld hx hb hX hbl hbA hS (vp_in_nI (by omega) (by omega)) dL_law_836 ?_
  refine W.eq (g2 := F0 m 837 ls [.int (xs (i + 2)), .int (xs (i + 1)), .ref (adm 0 0), .int r]) (by rw [nI_clamp (by omega)]) ?_
  refine fw_calli2 (va_runV (As := [.int (xs (i + 1)), .int (xs (i + 2))]) (rest := [.int r]) ⟨hx, hb, hml, hown, hts⟩ (c_X5_onRake l D kk adm n I O J hjm hY hR (xs (i + 1)) (xs (i + 2)) _) (cwV 2 hts gL_law_X5_onRake rfl rfl rfl (by decide +kernel) ⟨Nat.le_of_ble_eq_true rfl, Nat.le_of_ble_eq_true rfl⟩) (fw_preV hK hPm (ci := 5) rfl (m_at0 hjm)) rfl rfl hl.1 rfl (lv_room (Nat.le_of_ble_eq_true rfl)) dL_law_837 ⟨by show 35 + i + 0 + 0 ≤ 639303; omega, by show 639 + 6 * i + 0 + 0 ≤ 7184338; omega⟩) hDm hS hA hPx (fun a x y h1 h2 => hdis a y x h2 h1) (fun r2 w1 H locs hq hPm hDm hS hPx hdis => ?_)
  obtain ⟨e2, rfl⟩ := hq
  rw [e1] at e2
  subst e2
  refine lv_icmp_eq (tgt := 845) hx hb dL_law_840 (by decide) (fun _ => ?_) (fun c9 => absurd rfl c9)
  refine lv_iinc (v := nI (i + 5)) (lv' := [(3, .int (nI (i + 5))), (0, .ref b), (1, .ref (adx 0 0)), (2, .ref (adm 0 0))]) hx hb dL_law_845 hl (k := 0) rfl (nI_add i 5) (by decide) rfl (fun ls hl => ?_)
  refine lv_goto (tgt := 18) hx hb dL_law_848 (by decide) ?_
  refine W.widen (k := 35 + (i + 5)) (n := 639 + 6 * (i + 5)) (by omega) (by omega) ?_
  exact kk9 adx adm n I O J H locs ls hjx hjm hY hR hPx hDx hPm hDm (fun a x y h1 h2 => hdis a y x h2 h1) hS hl
