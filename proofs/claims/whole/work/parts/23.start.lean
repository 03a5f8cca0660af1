set_option maxHeartbeats 4000000 in
set_option maxRecDepth 100000 in
theorem law_loop {p : Program} {e : Env} {s : State} {m : MethodId} {below : List Frame} {meth : Method} {c : Code} (l : Launch) {b L : Nat} {xs : Nat → Int32} (hL : L ≤ 2560) (C0 : lw_At p s m meth c b L xs) (D : va_G) (kk : Nat → ClassId) (hK : va_K D vwCl (xT kk) s) : ∀ (f i : Nat) (adx adm : Nat → Nat → Nat) (n : Nat) (I : sI) (O : sO) (J : sI) (H : Heap) (locs : List Loc) (ls : Array Slot), i ≤ L → L - i < f → sj (xV n) adx → sj mV adm → yI n I O → mR n I O J → fw_P D vwCl (xw kk adx n I O) H → fw_D (fun q : Nat => s.heap.size ≤ q) (xw kk adx n I O) → fw_P D vwCl (mw kk adm J) H → fw_D (fun q : Nat => s.heap.size ≤ q) (mw kk adm J) → (∀ (a : Nat) (x y : va_E), xw kk adx n I O a = some x → mw kk adm J a = some y → False) → va_S (fun q : Nat => s.heap.size ≤ q) s.heap H locs → lv_has ls 4 [(3, .int (nI i)), (0, .ref b), (1, .ref (adx 0 0)), (2, .ref (adm 0 0))] → W p l e room_1 s m #[Value.ref b] below meth c H locs (35 + i) (639 + 6 * i) (lw_Z below #[Value.ref b] s) (F0 m 18 ls []) := by
  intro f
  induction f with
  | zero => intro i adx adm n I O J H locs ls h1 h2; omega
  | succ f ih =>
    intro i adx adm n I O J H locs ls hiL hf hjx hjm hY hR hPx hDx hPm hDm hdis hS hl
    obtain ⟨hx, hb, hr, hml, hown, hts, hX, hbl, hlocks, hgv⟩ := id C0
    have hown : s.vm.findClass RL = some m.cls := hown
    have hts := fun w h => hts w (wsL_law_in w h)
    have hA : ∀ q : Nat, s.heap.size ≤ q → (fun q : Nat => s.heap.size ≤ q) q := fun _ h => h
    have hbA : ¬ (fun q : Nat => s.heap.size ≤ q) b := Nat.not_le.mpr hbl
    refine lv_iload_n hx hb dL_law_18 rfl (lv_at hl 0 rfl) ?_
    refine lv_aload_n hx hb dL_law_19 rfl (lv_at hl 1 rfl) ?_
    refine va_slen hx hb hX hbl hbA hS dL_law_20 ?_
    refine lv_iconst (v := 5) hx hb dL_law_21 (by decide) ?_
    refine lv_isub hx hb dL_law_22 ?_
    refine lv_icmp_gt (tgt := 851) hx hb dL_law_23 (by decide) (fun c_23 => ?_) (fun c_23 => ?_)
    · refine lv_iconst (v := 1) hx hb dL_law_851 (by decide) ?_
      refine va_forget (fun q hq => hS.2.2 q hq) ?_
      refine W.widen (k := 639303) (n := 7184338) (by omega) (by omega) ?_
      exact lw_ret hx hb hr hlocks dL_law_852
    · have hi5 : i + 5 ≤ L := lw_go (by omega) hL c_23
      have kk9 : ∀ (adx adm : Nat → Nat → Nat) (n : Nat) (I : sI) (O : sO) (J : sI) (H : Heap) (locs : List Loc) (ls : Array Slot), sj (xV n) adx → sj mV adm → yI n I O → mR n I O J → fw_P D vwCl (xw kk adx n I O) H → fw_D (fun q : Nat => s.heap.size ≤ q) (xw kk adx n I O) → fw_P D vwCl (mw kk adm J) H → fw_D (fun q : Nat => s.heap.size ≤ q) (mw kk adm J) → (∀ (a : Nat) (x y : va_E), xw kk adx n I O a = some x → mw kk adm J a = some y → False) → va_S (fun q : Nat => s.heap.size ≤ q) s.heap H locs → lv_has ls 4 [(3, .int (nI (i + 5))), (0, .ref b), (1, .ref (adx 0 0)), (2, .ref (adm 0 0))] → W p l e room_1 s m #[Value.ref b] below meth c H locs (35 + (i + 5)) (639 + 6 * (i + 5)) (lw_Z below #[Value.ref b] s) (F0 m 18 ls []) := fun adx adm n I O J H locs ls a1 a2 a3 a4 a5 a6 a7 a8 a9 a10 a11 => ih (i + 5) adx adm n I O J H locs ls (by omega) (by omega) a1 a2 a3 a4 a5 a6 a7 a8 a9 a10 a11
      refine lv_aload_n hx hb dL_law_26 rfl (lv_at hl 1 rfl) ?_
      refine lv_iload_n hx hb dL_law_27 rfl (lv_at hl 0 rfl) ?_
      refine va_sld hx hb hX hbl hbA hS (vp_in_nI (by omega) (by omega)) dL_law_28 ?_
      refine lv_bipush (v := 31) hx hb dL_law_29 (by decide) ?_
      refine lv_iand hx hb dL_law_31 ?_
      generalize xs (nI i).toNatClampNeg &&& 31 = v
      by_cases k0 : v = 0
      · refine lv_tableIn (tgt := 132) hx hb dL_law_32 (by rw [k0]; decide) (by rw [k0]; decide) (by rw [k0]; rfl) (by decide) ?_
        exact law_wagon l hL C0 D kk hK i hi5 kk9 adx adm n I O J H locs ls hjx hjm hY hR hPx hDx hPm hDm hdis hS hl
      by_cases k1 : v = 1
      · refine lv_tableIn (tgt := 165) hx hb dL_law_32 (by rw [k1]; decide) (by rw [k1]; decide) (by rw [k1]; rfl) (by decide) ?_
        exact law_couple l hL C0 D kk hK i hi5 kk9 adx adm n I O J H locs ls hjx hjm hY hR hPx hDx hPm hDm hdis hS hl
      by_cases k2 : v = 2
      · refine lv_tableIn (tgt := 198) hx hb dL_law_32 (by rw [k2]; decide) (by rw [k2]; decide) (by rw [k2]; rfl) (by decide) ?_
        exact law_stand l hL C0 D kk hK i hi5 kk9 adx adm n I O J H locs ls hjx hjm hY hR hPx hDx hPm hDm hdis hS hl
      by_cases k3 : v = 3
      · refine lv_tableIn (tgt := 231) hx hb dL_law_32 (by rw [k3]; decide) (by rw [k3]; decide) (by rw [k3]; rfl) (by decide) ?_
        exact law_signal l hL C0 D kk hK i hi5 kk9 adx adm n I O J H locs ls hjx hjm hY hR hPx hDx hPm hDm hdis hS hl
      by_cases k4 : v = 4
      · refine lv_tableIn (tgt := 264) hx hb dL_law_32 (by rw [k4]; decide) (by rw [k4]; decide) (by rw [k4]; rfl) (by decide) ?_
        exact law_wagonAt l hL C0 D kk hK i hi5 kk9 adx adm n I O J H locs ls hjx hjm hY hR hPx hDx hPm hDm hdis hS hl
      by_cases k5 : v = 5
      · refine lv_tableIn (tgt := 297) hx hb dL_law_32 (by rw [k5]; decide) (by rw [k5]; decide) (by rw [k5]; rfl) (by decide) ?_
        exact law_load l hL C0 D kk hK i hi5 kk9 adx adm n I O J H locs ls hjx hjm hY hR hPx hDx hPm hDm hdis hS hl
      by_cases k6 : v = 6
      · refine lv_tableIn (tgt := 340) hx hb dL_law_32 (by rw [k6]; decide) (by rw [k6]; decide) (by rw [k6]; rfl) (by decide) ?_
        exact law_cut l hL C0 D kk hK i hi5 kk9 adx adm n I O J H locs ls hjx hjm hY hR hPx hDx hPm hDm hdis hS hl
      by_cases k7 : v = 7
      · refine lv_tableIn (tgt := 373) hx hb dL_law_32 (by rw [k7]; decide) (by rw [k7]; decide) (by rw [k7]; rfl) (by decide) ?_
        exact law_hoot l hL C0 D kk hK i hi5 kk9 adx adm n I O J H locs ls hjx hjm hY hR hPx hDx hPm hDm hdis hS hl
      by_cases k8 : v = 8
      · refine lv_tableIn (tgt := 406) hx hb dL_law_32 (by rw [k8]; decide) (by rw [k8]; decide) (by rw [k8]; rfl) (by decide) ?_
        exact law_pull l hL C0 D kk hK i hi5 kk9 adx adm n I O J H locs ls hjx hjm hY hR hPx hDx hPm hDm hdis hS hl
      by_cases k9 : v = 9
      · refine lv_tableIn (tgt := 439) hx hb dL_law_32 (by rw [k9]; decide) (by rw [k9]; decide) (by rw [k9]; rfl) (by decide) ?_
        exact law_loadAs l hL C0 D kk hK i hi5 kk9 adx adm n I O J H locs ls hjx hjm hY hR hPx hDx hPm hDm hdis hS hl
      by_cases k10 : v = 10
      · refine lv_tableIn (tgt := 482) hx hb dL_law_32 (by rw [k10]; decide) (by rw [k10]; decide) (by rw [k10]; rfl) (by decide) ?_
        exact law_rake l hL C0 D kk hK i hi5 kk9 adx adm n I O J H locs ls hjx hjm hY hR hPx hDx hPm hDm hdis hS hl
      by_cases k11 : v = 11
      · refine lv_tableIn (tgt := 525) hx hb dL_law_32 (by rw [k11]; decide) (by rw [k11]; decide) (by rw [k11]; rfl) (by decide) ?_
        exact law_drop l hL C0 D kk hK i hi5 kk9 adx adm n I O J H locs ls hjx hjm hY hR hPx hDx hPm hDm hdis hS hl
      by_cases k12 : v = 12
      · refine lv_tableIn (tgt := 548) hx hb dL_law_32 (by rw [k12]; decide) (by rw [k12]; decide) (by rw [k12]; rfl) (by decide) ?_
        exact law_lay l hL C0 D kk hK i hi5 kk9 adx adm n I O J H locs ls hjx hjm hY hR hPx hDx hPm hDm hdis hS hl
      by_cases k13 : v = 13
      · refine lv_tableIn (tgt := 581) hx hb dL_law_32 (by rw [k13]; decide) (by rw [k13]; decide) (by rw [k13]; rfl) (by decide) ?_
        exact law_places l hL C0 D kk hK i hi5 kk9 adx adm n I O J H locs ls hjx hjm hY hR hPx hDx hPm hDm hdis hS hl
      by_cases k14 : v = 14
      · refine lv_tableIn (tgt := 604) hx hb dL_law_32 (by rw [k14]; decide) (by rw [k14]; decide) (by rw [k14]; rfl) (by decide) ?_
        exact law_loadOn l hL C0 D kk hK i hi5 kk9 adx adm n I O J H locs ls hjx hjm hY hR hPx hDx hPm hDm hdis hS hl
      by_cases k15 : v = 15
      · refine lv_tableIn (tgt := 637) hx hb dL_law_32 (by rw [k15]; decide) (by rw [k15]; decide) (by rw [k15]; rfl) (by decide) ?_
        exact law_table l hL C0 D kk hK i hi5 kk9 adx adm n I O J H locs ls hjx hjm hY hR hPx hDx hPm hDm hdis hS hl
      by_cases k16 : v = 16
      · refine lv_tableIn (tgt := 680) hx hb dL_law_32 (by rw [k16]; decide) (by rw [k16]; decide) (by rw [k16]; rfl) (by decide) ?_
        exact law_add l hL C0 D kk hK i hi5 kk9 adx adm n I O J H locs ls hjx hjm hY hR hPx hDx hPm hDm hdis hS hl
      by_cases k17 : v = 17
      · refine lv_tableIn (tgt := 733) hx hb dL_law_32 (by rw [k17]; decide) (by rw [k17]; decide) (by rw [k17]; rfl) (by decide) ?_
        exact law_raise l hL C0 D kk hK i hi5 kk9 adx adm n I O J H locs ls hjx hjm hY hR hPx hDx hPm hDm hdis hS hl
      by_cases k18 : v = 18
      · refine lv_tableIn (tgt := 756) hx hb dL_law_32 (by rw [k18]; decide) (by rw [k18]; decide) (by rw [k18]; rfl) (by decide) ?_
        exact law_told l hL C0 D kk hK i hi5 kk9 adx adm n I O J H locs ls hjx hjm hY hR hPx hDx hPm hDm hdis hS hl
      by_cases k19 : v = 19
      · refine lv_tableIn (tgt := 779) hx hb dL_law_32 (by rw [k19]; decide) (by rw [k19]; decide) (by rw [k19]; rfl) (by decide) ?_
        exact law_about l hL C0 D kk hK i hi5 kk9 adx adm n I O J H locs ls hjx hjm hY hR hPx hDx hPm hDm hdis hS hl
      by_cases k20 : v = 20
      · refine lv_tableIn (tgt := 812) hx hb dL_law_32 (by rw [k20]; decide) (by rw [k20]; decide) (by rw [k20]; rfl) (by decide) ?_
        exact law_onRake l hL C0 D kk hK i hi5 kk9 adx adm n I O J H locs ls hjx hjm hY hR hPx hDx hPm hDm hdis hS hl
      refine lv_tableOut (tgt := 845) hx hb dL_law_32 (by have z0 := lv_neT (a := 0) k0 (by decide); have z1 := lv_neT (a := 1) k1 (by decide); have z2 := lv_neT (a := 2) k2 (by decide); have z3 := lv_neT (a := 3) k3 (by decide); have z4 := lv_neT (a := 4) k4 (by decide); have z5 := lv_neT (a := 5) k5 (by decide); have z6 := lv_neT (a := 6) k6 (by decide); have z7 := lv_neT (a := 7) k7 (by decide); have z8 := lv_neT (a := 8) k8 (by decide); have z9 := lv_neT (a := 9) k9 (by decide); have z10 := lv_neT (a := 10) k10 (by decide); have z11 := lv_neT (a := 11) k11 (by decide); have z12 := lv_neT (a := 12) k12 (by decide); have z13 := lv_neT (a := 13) k13 (by decide); have z14 := lv_neT (a := 14) k14 (by decide); have z15 := lv_neT (a := 15) k15 (by decide); have z16 := lv_neT (a := 16) k16 (by decide); have z17 := lv_neT (a := 17) k17 (by decide); have z18 := lv_neT (a := 18) k18 (by decide); have z19 := lv_neT (a := 19) k19 (by decide); have z20 := lv_neT (a := 20) k20 (by decide); omega) (by decide) ?_
      refine lv_iinc (v := nI (i + 5)) (lv' := [(3, .int (nI (i + 5))), (0, .ref b), (1, .ref (adx 0 0)), (2, .ref (adm 0 0))]) hx hb dL_law_845 hl (k := 0) rfl (nI_add i 5) (by decide) rfl (fun ls hl => ?_)
      refine lv_goto (tgt := 18) hx hb dL_law_848 (by decide) ?_
      refine W.widen (k := 35 + (i + 5)) (n := 639 + 6 * (i + 5)) (by omega) (by omega) ?_
      exact kk9 adx adm n I O J H locs ls hjx hjm hY hR hPx hDx hPm hDm hdis hS hl
theorem arr_int {s : State} {args : Array Value} (h : (Cond.arrayClass .int).before args s = true) : ∃ cA : ClassId, ArrOfT s cA .int ∧ va_RA s cA .int := by
  obtain ⟨cA, kA, comp, h1, h2, h3⟩ := Cond.arrayClass_spec h
  exact ⟨cA, fun n z => ⟨fun k h => (by cases h), kA, h2, comp, h3⟩, h1⟩
theorem arr_obj {s : State} {C : String} (h : va_AO C s) : ∃ cA : ClassId, ArrOfT s cA (.object C) ∧ va_RA s cA (.object C) := by
  obtain ⟨comp, c, k, h1, h2, h3, h4, h5⟩ := Cond.arrayOver_spec h
  exact ⟨c, fun n z => ⟨fun k h => (by cases h), k, h3, comp, h4⟩, k, comp, h3, h4, h1, h5⟩
set_option maxHeartbeats 4000000 in
set_option maxRecDepth 100000 in
theorem whole_start {p : Program} {e : Env} {s : State} {m : MethodId} {below : List Frame} {meth : Method} {c : Code} (l : Launch) {b L : Nat} {xs : Nat → Int32} (hL : L ≤ 2560) (C0 : lw_At p s m meth c b L xs) : W p l e room_1 s m #[Value.ref b] below meth c s.heap [] 0 0 (lw_Z below #[Value.ref b] s) (entryFrame m ([Value.ref b] : List Value).toArray 4) := by
  obtain ⟨hx, hb, hr, hml, hown, hts0, hX, hbl, hlocks, hgv⟩ := id C0
  have hown : s.vm.findClass RL = some m.cls := hown
  have hts := fun w h => hts0 w (wsL_law_in w h)
  have hA : ∀ q : Nat, s.heap.size ≤ q → (fun q : Nat => s.heap.size ≤ q) q := fun _ h => h
  obtain ⟨c0, iS0, hKn0⟩ := u_known (C := RX0) (T := TX0) (N := 4) (n := 4) hts0 inX0 (hts (.instantiable RX0 4) (by decide +kernel))
  obtain ⟨c1, iS1, hKn1⟩ := u_known (C := RX1) (T := TX1) (N := 4) (n := 4) hts0 inX1 (hts (.instantiable RX1 4) (by decide +kernel))
  obtain ⟨c2, iS2, hKn2⟩ := u_known (C := RX2) (T := TX2) (N := 2) (n := 2) hts0 inX2 (hts (.instantiable RX2 2) (by decide +kernel))
  obtain ⟨c3, iS3, hKn3⟩ := u_known (C := RX3) (T := TX3) (N := 6) (n := 6) hts0 inX3 (hts (.instantiable RX3 6) (by decide +kernel))
  obtain ⟨c4, iS4, hKn4⟩ := u_known (C := RX4) (T := TX4) (N := 8) (n := 8) hts0 inX4 (hts (.instantiable RX4 8) (by decide +kernel))
  obtain ⟨c5, iS5, hKn5⟩ := u_known (C := RX5) (T := TX5) (N := 15) (n := 15) hts0 inX5 (hts (.instantiable RX5 15) (by decide +kernel))
  obtain ⟨dC, dI, hKc⟩ : ∃ (dC : Nat → ClassId) (dI : Nat → Nat → Nat), ∀ (k : Nat) (q : vw_C), vwCl[k]? = some q → u_Kn s q.1 q.2.1 q.2.2 (dC k) (dI k) := by
    refine ⟨fun k => if k = 0 then c0 else if k = 1 then c1 else if k = 2 then c2 else if k = 3 then c3 else if k = 4 then c4 else c5, fun k => if k = 0 then iS0 else if k = 1 then iS1 else if k = 2 then iS2 else if k = 3 then iS3 else if k = 4 then iS4 else iS5, ?_⟩
    intro k q hq
    match k, hq with
    | 0, hq => cases hq; exact hKn0
    | 1, hq => cases hq; exact hKn1
    | 2, hq => cases hq; exact hKn2
    | 3, hq => cases hq; exact hKn3
    | 4, hq => cases hq; exact hKn4
    | 5, hq => cases hq; exact hKn5
    | k + 6, hq => simp [vwCl] at hq
  have hO : xAO s := ⟨⟨va_AO.of (hts0 (.arrayOver (.object "WagonSidings$Wagon")) (by decide +kernel)), va_AO.of (hts0 (.arrayOver (.object "WagonSidings$Track")) (by decide +kernel)), va_AO.of (hts0 (.arrayOver (.object "WagonSidings$Rake")) (by decide +kernel)), va_AO.of (hts0 (.arrayOver (.object "WagonSidings$Table")) (by decide +kernel))⟩, va_Nw.of rfl (hts0 (.methodLinkNest RX4 33 yX2_init "WagonSidings") (by decide +kernel)), va_Nw.of rfl (hts0 (.methodLinkNest RX4 34 yX0_init "WagonSidings") (by decide +kernel)), va_Nw.of rfl (hts0 (.methodLinkNest RX4 35 yX1_init "WagonSidings") (by decide +kernel))⟩
  obtain ⟨a0, ha0⟩ := arr_int (hts (.arrayClass .int) (by decide +kernel))
  obtain ⟨a1, ha1⟩ := arr_obj hO.1.1
  obtain ⟨a2, ha2⟩ := arr_obj hO.1.2.1
  obtain ⟨a3, ha3⟩ := arr_obj hO.1.2.2.1
  obtain ⟨a4, ha4⟩ := arr_obj hO.1.2.2.2
  obtain ⟨kk, hk0, hk1, hk2, hk3, hk4⟩ : ∃ kk : Nat → ClassId, kk 0 = a0 ∧ kk 1 = a1 ∧ kk 2 = a2 ∧ kk 3 = a3 ∧ kk 4 = a4 := ⟨fun k => if k = 0 then a0 else if k = 1 then a1 else if k = 2 then a2 else if k = 3 then a3 else a4, rfl, rfl, rfl, rfl, rfl⟩
  have hK : va_K (dC, dI) vwCl (xT kk) s := by
    refine ⟨hKc, fun k q hq => ?_⟩
    match k, hq with
    | 0, hq => cases hq; rw [hk0]; exact ha0
    | 1, hq => cases hq; rw [hk1]; exact ha1
    | 2, hq => cases hq; rw [hk2]; exact ha2
    | 3, hq => cases hq; rw [hk3]; exact ha3
    | 4, hq => cases hq; rw [hk4]; exact ha4
    | k + 5, hq => simp [xT] at hq
  have hS : va_S (fun q : Nat => s.heap.size ≤ q) s.heap s.heap [] := va_S.rf
  have hP : fw_P (dC, dI) vwCl (fun _ => none) s.heap := fun a x h => by cases h
  have hD : fw_D (fun q : Nat => s.heap.size ≤ q) (fun _ => none) := fun a x h => by cases h
  have hl := lv_entry ([.ref b]) (n := 4) (Nat.le_of_ble_eq_true rfl)
  rw [lg_entry_eq]
  generalize (lg_sl ([.ref b]) ++ List.replicate (4 - (lg_sl ([.ref b])).length) Slot.unset).toArray = ls at hl ⊢
  have hl : lv_has ls 4 [(0, .ref b)] := hl
  have in4 : ∀ w ∈ u_ws RX4 TX4 8, w ∈ lw_tbl := inX4
  have in5 : ∀ w ∈ u_ws RX5 TX5 15, w ∈ lw_tbl := inX5
  refine fw_new (ci := 4) (fs := [.null, .int 0, .null, .null, .null, .int 0, .int 0, .int 0]) (C := RX4) (T := TX4) (N := 8) hx hb hts0 in4 tyX4 tyX4_ok hown (hts (.classLink RL 7 RX4) (by decide +kernel)) (hts (.instantiable RX4 8) (by decide +kernel)) (hts (.initialized RX4) (by decide +kernel)) hK hP hD hS hA rfl (fun j hj => by rcases (show j = 0 ∨ j = 1 ∨ j = 2 ∨ j = 3 ∨ j = 4 ∨ j = 5 ∨ j = 6 ∨ j = 7 by omega) with rfl | rfl | rfl | rfl | rfl | rfl | rfl | rfl <;> rfl) (Nat.le_of_ble_eq_true rfl) (Nat.le_of_ble_eq_true rfl) dL_law_0 (fun q H hq hP hD hS => ?_)
  refine lv_dup hx hb dL_law_3 rfl ?_
  refine fw_callv (va_runI (As := []) (rest := [.ref q]) ⟨hx, hb, hml, hown, hts⟩ (c_X4_init l (dC, dI) kk q _) (cwI 0 hts gL_law_X4_init rfl rfl rfl (hts (.initialized RX4) (by decide +kernel)) (hts (.methodLink RL 9 yX4_init) (by decide +kernel)) (hts (.instanceMethod yX4_init) (by decide +kernel)) rfl (by decide +kernel) ⟨Nat.le_of_ble_eq_true rfl, Nat.le_of_ble_eq_true rfl⟩) (fw_preSA hK hO hP) rfl rfl hl.1 rfl (lv_room (Nat.le_of_ble_eq_true rfl)) dL_law_4 ⟨Nat.le_of_ble_eq_true rfl, Nat.le_of_ble_eq_true rfl⟩) hD hS hA (fun w1 H locs hq1 hP hD hS => ?_)
  obtain ⟨adx, hx0, hjx, rfl⟩ := hq1
  refine lv_astore_n (lv' := [(1, .ref q), (0, .ref b)]) hx hb dL_law_7 rfl hl (by decide) rfl (fun ls hl => ?_)
  refine fw_new (ci := 5) (fs := [.int 0, .null, .null, .null, .null, .null, .null, .null, .null, .null, .null, .null, .int 0, .int 0, .int 0]) (C := RX5) (T := TX5) (N := 15) hx hb hts0 in5 tyX5 tyX5_ok hown (hts (.classLink RL 10 RX5) (by decide +kernel)) (hts (.instantiable RX5 15) (by decide +kernel)) (hts (.initialized RX5) (by decide +kernel)) hK hP hD hS hA rfl (fun j hj => by rcases (show j = 0 ∨ j = 1 ∨ j = 2 ∨ j = 3 ∨ j = 4 ∨ j = 5 ∨ j = 6 ∨ j = 7 ∨ j = 8 ∨ j = 9 ∨ j = 10 ∨ j = 11 ∨ j = 12 ∨ j = 13 ∨ j = 14 by omega) with rfl | rfl | rfl | rfl | rfl | rfl | rfl | rfl | rfl | rfl | rfl | rfl | rfl | rfl | rfl <;> rfl) (Nat.le_of_ble_eq_true rfl) (Nat.le_of_ble_eq_true rfl) dL_law_8 (fun q2 H hq2 hP hD hS => ?_)
  obtain ⟨⟨hPx, hDx⟩, ⟨hP, hD⟩, hdis⟩ := fw_split hq2 hP hD
  refine lv_dup hx hb dL_law_11 rfl ?_
  refine fw_callv2 (va_runI (As := []) (rest := [.ref q2]) ⟨hx, hb, hml, hown, hts⟩ (c_X5_init l (dC, dI) kk q2 _) (cwI 0 hts gL_law_X5_init rfl rfl rfl (hts (.initialized RX5) (by decide +kernel)) (hts (.methodLink RL 12 yX5_init) (by decide +kernel)) (hts (.instanceMethod yX5_init) (by decide +kernel)) rfl (by decide +kernel) ⟨Nat.le_of_ble_eq_true rfl, Nat.le_of_ble_eq_true rfl⟩) (fw_preS hK hP) rfl rfl hl.1 rfl (lv_room (Nat.le_of_ble_eq_true rfl)) dL_law_12 ⟨Nat.le_of_ble_eq_true rfl, Nat.le_of_ble_eq_true rfl⟩) hD hS hA hPx hdis (fun w1 H locs hq3 hPm hDm hS hPx hdis => ?_)
  obtain ⟨adm, J, hm0, hjm, hR, rfl⟩ := hq3
  refine lv_astore_n (lv' := [(2, .ref q2), (1, .ref q), (0, .ref b)]) hx hb dL_law_15 rfl hl (by decide) rfl (fun ls hl => ?_)
  refine lv_iconst (v := 0) hx hb dL_law_16 (by decide) ?_
  refine lv_istore_n (lv' := [(3, .int 0), (2, .ref q2), (1, .ref q), (0, .ref b)]) hx hb dL_law_17 rfl hl (by decide) rfl (fun ls hl => ?_)
  refine W.widen (k := 35 + 0) (n := 639 + 6 * 0) (Nat.le_of_ble_eq_true rfl) (Nat.le_of_ble_eq_true rfl) ?_
  exact law_loop l hL C0 (dC, dI) kk hK (L + 1) 0 adx adm 0 I0 O0 J H locs ls (Nat.zero_le L) (by omega) hjx hjm y_0 hR hPx hDx hPm hDm (fun a x y h1 h2 => hdis a y x h2 h1) hS (by rw [hx0, hm0]; exact lv_sub hl [0, 3, 2, 1] rfl)
