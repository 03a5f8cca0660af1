def R_law : String := "WagonSidingsLaw"
def lw_P (b : Addr) (xs : List Int32) (args : Array Value) (s : State) : Prop := args = #[.ref b] ∧ s.IntsAt b xs ∧ xs.length ≤ 2560 ∧ (Jvm.Cond.and given_1 narrow_1).before args s = true
def lw_Q (_ : Array Value) (s : State) (o : Outcome) (t : State) : Prop := o = .returned (some (.int 1)) ∧ Framed s o t [] 639303 7184338
def lw_Z (below : List Frame) (a : Array Value) (s : State) : State → Prop := fun t => ∃ o, t.status = .running ∧ Ended t below o ∧ lw_Q a s o t
/-- the law's own end, with 1 on the stack, nothing written that was there before, its room as the claim has it -/
theorem lw_ret {p : Program} {l : Launch} {e : Env} {s : State} {m : MethodId} {below : List Frame} {meth : Method} {c : Code} {b : Nat} (hx : p.tables.exec = Jvm.exec) (hb : c.code = code) (hr : meth.sig.returnType = ret) (hlocks : meth.locks = false) {pc : Nat} {H : Heap} {ls : Array Slot} (hdg : decode code pc = .ok (.ireturn, 1)) : W p l e room_1 s m #[Value.ref b] below meth c H [] 639303 7184338 (lw_Z below #[Value.ref b] s) (F0 m pc ls [.int 1]) := by
  intro T hT X
  obtain ⟨fs, hret, hrun, hended, hW, hframe⟩ := X.leave (v := some (.int 1)) (hlocks := hlocks) (fun h => by rw [hr] at h; cases h)
  have hmeth' : T.vm.method? m = some meth := X.method'
  refine ⟨T.setFrames fs, ?_, .returned (some (.int 1)), hrun, hended, rfl, ⟨_, rfl⟩, hW, hframe⟩
  jvm_step X.here [X.here.top, hx, hb, hdg, hmeth', hr, ret, narrow_b1]
  (try refine ⟨rfl, ?_⟩); (try refine ⟨rfl, ?_⟩)
  first | (intro acts; rw [hret _ acts rfl rfl rfl]) | rw [hret _ _ rfl rfl rfl]
  exact Steps.refl _
/-- what holds at the law's entry: the machine, the code, the tables' words (any of lw_tbl by 'hts w (by decide +kernel)'), the script of L ints xs at the cell b, what the Statement gives of the start (any of its parts by flat_of_before) -/
def lw_At (p : Program) (s : State) (m : MethodId) (meth : Method) (c : Code) (b L : Nat) (xs : Nat → Int32) : Prop :=
  p.tables.exec = Jvm.exec ∧ c.code = code ∧ meth.sig.returnType = ret ∧ c.maxLocals = 4 ∧ s.vm.findClass R_law = some m.cls ∧ (∀ w ∈ lw_tbl, w.before #[Value.ref b] s = true) ∧ va_X b L xs s s.heap ∧ b < s.heap.size ∧ meth.locks = false ∧ (Jvm.Cond.and given_1 narrow_1).before #[Value.ref b] s = true

theorem fw_split {D : va_G} {cl : List vw_C} {A : Nat → Prop} {w : fw_W} {H : Heap} {q : Nat} {e : va_E} (hq : w q = none) (hP : fw_P D cl (fw_up w q e) H) (hD : fw_D A (fw_up w q e)) : (fw_P D cl w H ∧ fw_D A w) ∧ (fw_P D cl (fw_up (fun _ => none) q e) H ∧ fw_D A (fw_up (fun _ => none) q e)) ∧ ∀ (a : Nat) (x y : va_E), fw_up (fun _ => none) q e a = some x → w a = some y → False := by
  have h1 : ∀ a x, w a = some x → fw_up w q e a = some x := fun a x h => by
    rw [fw_up_ne (fun z => by rw [z, hq] at h; cases h)]
    exact h
  have h2 : ∀ a x, fw_up (fun _ => none) q e a = some x → a = q ∧ x = e := fun a x h => by
    by_cases z : a = q
    · subst z
      rw [fw_up_self] at h
      exact ⟨rfl, (Option.some.inj h).symm⟩
    · rw [fw_up_ne z] at h
      cases h
  refine ⟨⟨fun a x h => hP a x (h1 a x h), fun a x h => hD a x (h1 a x h)⟩, ⟨fun a x h => ?_, fun a x h => ?_⟩, fun a x y h h' => ?_⟩
  · obtain ⟨rfl, rfl⟩ := h2 a x h
    exact hP a x (fw_up_self _ _ _)
  · obtain ⟨rfl, rfl⟩ := h2 a x h
    exact hD a x (fw_up_self _ _ _)
  · obtain ⟨rfl, rfl⟩ := h2 a x h
    rw [hq] at h'
    cases h'
theorem lw_go {i L : Nat} (hi : i ≤ 100000) (hL : L ≤ 2560) (h : ¬ nI L - 5 < nI i) : i + 5 ≤ L := by
  rcases Nat.lt_or_ge L (i + 5) with z | z
  · exfalso
    apply h
    rw [Int32.lt_iff_toInt_lt, nI_toInt (by omega), show (5 : Int32) = nI 5 from rfl, pk_sub_toInt (by omega) (by omega)]
    omega
  · exact z

set_option maxHeartbeats 4000000 in
set_option maxRecDepth 100000 in
theorem law_wagon {p : Program} {e : Env} {s : State} {m : MethodId} {below : List Frame} {meth : Method} {c : Code} (l : Launch) {b L : Nat} {xs : Nat → Int32} (hL : L ≤ 2560) (C0 : lw_At p s m meth c b L xs) (D : va_G) (kk : Nat → ClassId) (hK : va_K D vwCl (xT kk) s) (i : Nat) (hi5 : i + 5 ≤ L) (kk9 : ∀ (adx adm : Nat → Nat → Nat) (n : Nat) (I : sI) (O : sO) (J : sI) (H : Heap) (locs : List Loc) (ls : Array Slot), sj (xV n) adx → sj mV adm → yI n I O → mR n I O J → fw_P D vwCl (xw kk adx n I O) H → fw_D (fun q : Nat => s.heap.size ≤ q) (xw kk adx n I O) → fw_P D vwCl (mw kk adm J) H → fw_D (fun q : Nat => s.heap.size ≤ q) (mw kk adm J) → (∀ (a : Nat) (x y : va_E), xw kk adx n I O a = some x → mw kk adm J a = some y → False) → va_S (fun q : Nat => s.heap.size ≤ q) s.heap H locs → lv_has ls 4 [(3, .int (nI (i + 5))), (0, .ref b), (1, .ref (adx 0 0)), (2, .ref (adm 0 0))] → W p l e room_1 s m #[Value.ref b] below meth c H locs (35 + (i + 5)) (639 + 6 * (i + 5)) (lw_Z below #[Value.ref b] s) (F0 m 18 ls [])) : ∀ (adx adm : Nat → Nat → Nat) (n : Nat) (I : sI) (O : sO) (J : sI) (H : Heap) (locs : List Loc) (ls : Array Slot), sj (xV n) adx → sj mV adm → yI n I O → mR n I O J → fw_P D vwCl (xw kk adx n I O) H → fw_D (fun q : Nat => s.heap.size ≤ q) (xw kk adx n I O) → fw_P D vwCl (mw kk adm J) H → fw_D (fun q : Nat => s.heap.size ≤ q) (mw kk adm J) → (∀ (a : Nat) (x y : va_E), xw kk adx n I O a = some x → mw kk adm J a = some y → False) → va_S (fun q : Nat => s.heap.size ≤ q) s.heap H locs → lv_has ls 4 [(3, .int (nI i)), (0, .ref b), (1, .ref (adx 0 0)), (2, .ref (adm 0 0))] → W p l e room_1 s m #[Value.ref b] below meth c H locs (35 + i) (639 + 6 * i) (lw_Z below #[Value.ref b] s) (F0 m 132 ls []) := by
  intro adx adm n I O J H locs ls hjx hjm hY hR hPx hDx hPm hDm hdis hS hl
  obtain ⟨hx, hb, hr, hml, hown, hts, hX, hbl, hlocks, hgv⟩ := id C0
  have hown : s.vm.findClass RL = some m.cls := hown
  have hts := fun w h => hts w (wsL_law_in w h)
  have hA : ∀ q : Nat, s.heap.size ≤ q → (fun q : Nat => s.heap.size ≤ q) q := fun _ h => h
  have hbA : ¬ (fun q : Nat => s.heap.size ≤ q) b := Nat.not_le.mpr hbl
  refine lv_aload_n hx hb dL_law_132 rfl (lv_at hl 2 rfl) ?_
  refine lv_aload_n hx hb dL_law_133 rfl (lv_at hl 1 rfl) ?_
  refine lv_iload_n hx hb dL_law_134 rfl (lv_at hl 0 rfl) ?_
  refine lv_iconst (v := 1) hx hb dL_law_135 (by decide) ?_
  refine lv_iadd hx hb dL_law_136 ?_
  refine W.eq (g2 := F0 m 137 ls [.int (nI (i + 1)), .ref b, .ref (adx 0 0)]) (by rw [show (1 : Int32) = nI 1 from rfl, nI_add]) ?_
  refine va_sld hx hb hX hbl hbA hS (vp_in_nI (by omega) (by omega)) dL_law_137 ?_
  refine W.eq (g2 := F0 m 138 ls [.int (xs (i + 1)), .ref (adx 0 0)]) (by rw [nI_clamp (by omega)]) ?_
  refine lv_aload_n hx hb dL_law_138 rfl (lv_at hl 1 rfl) ?_
  refine lv_iload_n hx hb dL_law_139 rfl (lv_at hl 0 rfl) ?_
  refine lv_iconst (v := 2) hx hb dL_law_140 (by decide) ?_
  refine lv_iadd hx hb dL_law_141 ?_
  refine W.eq (g2 := F0 m 142 ls [.int (nI (i + 2)), .ref b, .int (xs (i + 1)), .ref (adx 0 0)]) (by rw [show (2 : Int32) = nI 2 from rfl, nI_add]) ?_
  refine va_sld hx hb hX hbl hbA hS (vp_in_nI (by omega) (by omega)) dL_law_142 ?_
  refine W.eq (g2 := F0 m 143 ls [.int (xs (i + 2)), .int (xs (i + 1)), .ref (adx 0 0)]) (by rw [nI_clamp (by omega)]) ?_
  refine fw_calli2 (va_runV (As := [.int (xs (i + 1)), .int (xs (i + 2))]) (rest := []) ⟨hx, hb, hml, hown, hts⟩ (c_X4_wagon l D kk adx n I O hjx hY.1 (xs (i + 1)) (xs (i + 2)) _) (cwV 2 hts gL_law_X4_wagon rfl rfl rfl (by decide +kernel) ⟨Nat.le_of_ble_eq_true rfl, Nat.le_of_ble_eq_true rfl⟩) (fw_preV hK hPx (ci := 4) rfl (x_at0 hjx)) rfl rfl hl.1 rfl (lv_room (Nat.le_of_ble_eq_true rfl)) dL_law_143 ⟨by show 35 + i + 1 ≤ 639303; omega, by show 639 + 6 * i + 6 ≤ 7184338; omega⟩) hDx hS hA hPm hdis (fun r w1 H locs hq hPx hDx hS hPm hdis => ?_)
  obtain ⟨ad1, n1, I1, O1, e1, h00, hj1, rfl⟩ := hq
  rw [← h00] at hl
  refine lv_aload_n hx hb dL_law_146 rfl (lv_at hl 3 rfl) ?_
  refine lv_aload_n hx hb dL_law_147 rfl (lv_at hl 1 rfl) ?_
  refine lv_iload_n hx hb dL_law_148 rfl (lv_at hl 0 rfl) ?_
  refine lv_iconst (v := 1) hx hb dL_law_149 (by decide) ?_
  refine lv_iadd hx hb dL_law_150 ?_
  refine W.eq (g2 := F0 m 151 ls [.int (nI (i + 1)), .ref b, .ref (adm 0 0), .int r]) (by rw [show (1 : Int32) = nI 1 from rfl, nI_add]) ?_
  refine va_sld hx hb hX hbl hbA hS (vp_in_nI (by omega) (by omega)) dL_law_151 ?_
  refine W.eq (g2 := F0 m 152 ls [.int (xs (i + 1)), .ref (adm 0 0), .int r]) (by rw [nI_clamp (by omega)]) ?_
  refine lv_aload_n hx hb dL_law_152 rfl (lv_at hl 1 rfl) ?_
  refine lv_iload_n hx hb dL_law_153 rfl (lv_at hl 0 rfl) ?_
  refine lv_iconst (v := 2) hx hb dL_law_154 (by decide) ?_
  refine lv_iadd hx hb dL_law_155 ?_
  refine W.eq (g2 := F0 m 156 ls [.int (nI (i + 2)), .ref b, .int (xs (i + 1)), .ref (adm 0 0), .int r]) (by rw [show (2 : Int32) = nI 2 from rfl, nI_add]) ?_
  refine va_sld hx hb hX hbl hbA hS (vp_in_nI (by omega) (by omega)) dL_law_156 ?_
  refine W.eq (g2 := F0 m 157 ls [.int (xs (i + 2)), .int (xs (i + 1)), .ref (adm 0 0), .int r]) (by rw [nI_clamp (by omega)]) ?_
  refine fw_calli2 (va_runV (As := [.int (xs (i + 1)), .int (xs (i + 2))]) (rest := [.int r]) ⟨hx, hb, hml, hown, hts⟩ (c_X5_wagon l D kk adm n I O J hjm hY hR (xs (i + 1)) (xs (i + 2)) _) (cwV 2 hts gL_law_X5_wagon rfl rfl rfl (by decide +kernel) ⟨Nat.le_of_ble_eq_true rfl, Nat.le_of_ble_eq_true rfl⟩) (fw_preV hK hPm (ci := 5) rfl (m_at0 hjm)) rfl rfl hl.1 rfl (lv_room (Nat.le_of_ble_eq_true rfl)) dL_law_157 ⟨by show 35 + i + 1 + 0 ≤ 639303; omega, by show 639 + 6 * i + 6 + 0 ≤ 7184338; omega⟩) hDm hS hA hPx (fun a x y h1 h2 => hdis a y x h2 h1) (fun r2 w1 H locs hq hPm hDm hS hPx hdis => ?_)
  obtain ⟨n2, I2, O2, J2, e2, hR2, rfl⟩ := hq
  rw [e1] at e2
  cases e2
  refine lv_icmp_eq (tgt := 845) hx hb dL_law_160 (by decide) (fun _ => ?_) (fun c9 => absurd rfl c9)
  refine lv_iinc (v := nI (i + 5)) (lv' := [(3, .int (nI (i + 5))), (0, .ref b), (1, .ref (ad1 0 0)), (2, .ref (adm 0 0))]) hx hb dL_law_845 hl (k := 0) rfl (nI_add i 5) (by decide) rfl (fun ls hl => ?_)
  refine lv_goto (tgt := 18) hx hb dL_law_848 (by decide) ?_
  refine W.widen (k := 35 + (i + 5)) (n := 639 + 6 * (i + 5)) (by omega) (by omega) ?_
  exact kk9 ad1 adm n1 I1 O1 J2 H locs ls hj1 hjm (ys_wagon hY e1) hR2 hPx hDx hPm hDm (fun a x y h1 h2 => hdis a y x h2 h1) hS hl
set_option maxHeartbeats 4000000 in
set_option maxRecDepth 100000 in
theorem law_couple {p : Program} {e : Env} {s : State} {m : MethodId} {below : List Frame} {meth : Method} {c : Code} (l : Launch) {b L : Nat} {xs : Nat → Int32} (hL : L ≤ 2560) (C0 : lw_At p s m meth c b L xs) (D : va_G) (kk : Nat → ClassId) (hK : va_K D vwCl (xT kk) s) (i : Nat) (hi5 : i + 5 ≤ L) (kk9 : ∀ (adx adm : Nat → Nat → Nat) (n : Nat) (I : sI) (O : sO) (J : sI) (H : Heap) (locs : List Loc) (ls : Array Slot), sj (xV n) adx → sj mV adm → yI n I O → mR n I O J → fw_P D vwCl (xw kk adx n I O) H → fw_D (fun q : Nat => s.heap.size ≤ q) (xw kk adx n I O) → fw_P D vwCl (mw kk adm J) H → fw_D (fun q : Nat => s.heap.size ≤ q) (mw kk adm J) → (∀ (a : Nat) (x y : va_E), xw kk adx n I O a = some x → mw kk adm J a = some y → False) → va_S (fun q : Nat => s.heap.size ≤ q) s.heap H locs → lv_has ls 4 [(3, .int (nI (i + 5))), (0, .ref b), (1, .ref (adx 0 0)), (2, .ref (adm 0 0))] → W p l e room_1 s m #[Value.ref b] below meth c H locs (35 + (i + 5)) (639 + 6 * (i + 5)) (lw_Z below #[Value.ref b] s) (F0 m 18 ls [])) : ∀ (adx adm : Nat → Nat → Nat) (n : Nat) (I : sI) (O : sO) (J : sI) (H : Heap) (locs : List Loc) (ls : Array Slot), sj (xV n) adx → sj mV adm → yI n I O → mR n I O J → fw_P D vwCl (xw kk adx n I O) H → fw_D (fun q : Nat => s.heap.size ≤ q) (xw kk adx n I O) → fw_P D vwCl (mw kk adm J) H → fw_D (fun q : Nat => s.heap.size ≤ q) (mw kk adm J) → (∀ (a : Nat) (x y : va_E), xw kk adx n I O a = some x → mw kk adm J a = some y → False) → va_S (fun q : Nat => s.heap.size ≤ q) s.heap H locs → lv_has ls 4 [(3, .int (nI i)), (0, .ref b), (1, .ref (adx 0 0)), (2, .ref (adm 0 0))] → W p l e room_1 s m #[Value.ref b] below meth c H locs (35 + i) (639 + 6 * i) (lw_Z below #[Value.ref b] s) (F0 m 165 ls []) := by
  intro adx adm n I O J H locs ls hjx hjm hY hR hPx hDx hPm hDm hdis hS hl
  obtain ⟨hx, hb, hr, hml, hown, hts, hX, hbl, hlocks, hgv⟩ := id C0
  have hown : s.vm.findClass RL = some m.cls := hown
  have hts := fun w h => hts w (wsL_law_in w h)
  have hA : ∀ q : Nat, s.heap.size ≤ q → (fun q : Nat => s.heap.size ≤ q) q := fun _ h => h
  have hbA : ¬ (fun q : Nat => s.heap.size ≤ q) b := Nat.not_le.mpr hbl
  refine lv_aload_n hx hb dL_law_165 rfl (lv_at hl 2 rfl) ?_
  refine lv_aload_n hx hb dL_law_166 rfl (lv_at hl 1 rfl) ?_
  refine lv_iload_n hx hb dL_law_167 rfl (lv_at hl 0 rfl) ?_
  refine lv_iconst (v := 1) hx hb dL_law_168 (by decide) ?_
  refine lv_iadd hx hb dL_law_169 ?_
  refine W.eq (g2 := F0 m 170 ls [.int (nI (i + 1)), .ref b, .ref (adx 0 0)]) (by rw [show (1 : Int32) = nI 1 from rfl, nI_add]) ?_
  refine va_sld hx hb hX hbl hbA hS (vp_in_nI (by omega) (by omega)) dL_law_170 ?_
  refine W.eq (g2 := F0 m 171 ls [.int (xs (i + 1)), .ref (adx 0 0)]) (by rw [nI_clamp (by omega)]) ?_
  refine lv_aload_n hx hb dL_law_171 rfl (lv_at hl 1 rfl) ?_
  refine lv_iload_n hx hb dL_law_172 rfl (lv_at hl 0 rfl) ?_
  refine lv_iconst (v := 2) hx hb dL_law_173 (by decide) ?_
  refine lv_iadd hx hb dL_law_174 ?_
  refine W.eq (g2 := F0 m 175 ls [.int (nI (i + 2)), .ref b, .int (xs (i + 1)), .ref (adx 0 0)]) (by rw [show (2 : Int32) = nI 2 from rfl, nI_add]) ?_
  refine va_sld hx hb hX hbl hbA hS (vp_in_nI (by omega) (by omega)) dL_law_175 ?_
  refine W.eq (g2 := F0 m 176 ls [.int (xs (i + 2)), .int (xs (i + 1)), .ref (adx 0 0)]) (by rw [nI_clamp (by omega)]) ?_
  refine fw_calli2 (va_runV (As := [.int (xs (i + 1)), .int (xs (i + 2))]) (rest := []) ⟨hx, hb, hml, hown, hts⟩ (c_X4_couple l D kk adx n I O hjx hY (xs (i + 1)) (xs (i + 2)) _) (cwV 2 hts gL_law_X4_couple rfl rfl rfl (by decide +kernel) ⟨Nat.le_of_ble_eq_true rfl, Nat.le_of_ble_eq_true rfl⟩) (fw_preV hK hPx (ci := 4) rfl (x_at0 hjx)) rfl rfl hl.1 rfl (lv_room (Nat.le_of_ble_eq_true rfl)) dL_law_176 ⟨by show 35 + i + 0 ≤ 639303; omega, by show 639 + 6 * i + 0 ≤ 7184338; omega⟩) hDx hS hA hPm hdis (fun r w1 H locs hq hPx hDx hS hPm hdis => ?_)
  obtain ⟨I1, O1, e1, rfl⟩ := hq
  refine lv_aload_n hx hb dL_law_179 rfl (lv_at hl 3 rfl) ?_
  refine lv_aload_n hx hb dL_law_180 rfl (lv_at hl 1 rfl) ?_
  refine lv_iload_n hx hb dL_law_181 rfl (lv_at hl 0 rfl) ?_
  refine lv_iconst (v := 1) hx hb dL_law_182 (by decide) ?_
  refine lv_iadd hx hb dL_law_183 ?_
  refine W.eq (g2 := F0 m 184 ls [.int (nI (i + 1)), .ref b, .ref (adm 0 0), .int r]) (by rw [show (1 : Int32) = nI 1 from rfl, nI_add]) ?_
  refine va_sld hx hb hX hbl hbA hS (vp_in_nI (by omega) (by omega)) dL_law_184 ?_
  refine W.eq (g2 := F0 m 185 ls [.int (xs (i + 1)), .ref (adm 0 0), .int r]) (by rw [nI_clamp (by omega)]) ?_
  refine lv_aload_n hx hb dL_law_185 rfl (lv_at hl 1 rfl) ?_
  refine lv_iload_n hx hb dL_law_186 rfl (lv_at hl 0 rfl) ?_
  refine lv_iconst (v := 2) hx hb dL_law_187 (by decide) ?_
  refine lv_iadd hx hb dL_law_188 ?_
  refine W.eq (g2 := F0 m 189 ls [.int (nI (i + 2)), .ref b, .int (xs (i + 1)), .ref (adm 0 0), .int r]) (by rw [show (2 : Int32) = nI 2 from rfl, nI_add]) ?_
  refine va_sld hx hb hX hbl hbA hS (vp_in_nI (by omega) (by omega)) dL_law_189 ?_
  refine W.eq (g2 := F0 m 190 ls [.int (xs (i + 2)), .int (xs (i + 1)), .ref (adm 0 0), .int r]) (by rw [nI_clamp (by omega)]) ?_
  refine fw_calli2 (va_runV (As := [.int (xs (i + 1)), .int (xs (i + 2))]) (rest := [.int r]) ⟨hx, hb, hml, hown, hts⟩ (c_X5_couple l D kk adm n I O J hjm hY hR (xs (i + 1)) (xs (i + 2)) _) (cwV 2 hts gL_law_X5_couple rfl rfl rfl (by decide +kernel) ⟨Nat.le_of_ble_eq_true rfl, Nat.le_of_ble_eq_true rfl⟩) (fw_preV hK hPm (ci := 5) rfl (m_at0 hjm)) rfl rfl hl.1 rfl (lv_room (Nat.le_of_ble_eq_true rfl)) dL_law_190 ⟨by show 35 + i + 0 + 0 ≤ 639303; omega, by show 639 + 6 * i + 0 + 0 ≤ 7184338; omega⟩) hDm hS hA hPx (fun a x y h1 h2 => hdis a y x h2 h1) (fun r2 w1 H locs hq hPm hDm hS hPx hdis => ?_)
  obtain ⟨I2, O2, J2, e2, hR2, rfl⟩ := hq
  rw [e1] at e2
  cases e2
  refine lv_icmp_eq (tgt := 845) hx hb dL_law_193 (by decide) (fun _ => ?_) (fun c9 => absurd rfl c9)
  refine lv_iinc (v := nI (i + 5)) (lv' := [(3, .int (nI (i + 5))), (0, .ref b), (1, .ref (adx 0 0)), (2, .ref (adm 0 0))]) hx hb dL_law_845 hl (k := 0) rfl (nI_add i 5) (by decide) rfl (fun ls hl => ?_)
  refine lv_goto (tgt := 18) hx hb dL_law_848 (by decide) ?_
  refine W.widen (k := 35 + (i + 5)) (n := 639 + 6 * (i + 5)) (by omega) (by omega) ?_
  exact kk9 adx adm n I1 O1 J2 H locs ls hjx hjm (ys_couple hY e1) hR2 hPx hDx hPm hDm (fun a x y h1 h2 => hdis a y x h2 h1) hS hl
set_option maxHeartbeats 4000000 in
set_option maxRecDepth 100000 in
theorem law_stand {p : Program} {e : Env} {s : State} {m : MethodId} {below : List Frame} {meth : Method} {c : Code} (l : Launch) {b L : Nat} {xs : Nat → Int32} (hL : L ≤ 2560) (C0 : lw_At p s m meth c b L xs) (D : va_G) (kk : Nat → ClassId) (hK : va_K D vwCl (xT kk) s) (i : Nat) (hi5 : i + 5 ≤ L) (kk9 : ∀ (adx adm : Nat → Nat → Nat) (n : Nat) (I : sI) (O : sO) (J : sI) (H : Heap) (locs : List Loc) (ls : Array Slot), sj (xV n) adx → sj mV adm → yI n I O → mR n I O J → fw_P D vwCl (xw kk adx n I O) H → fw_D (fun q : Nat => s.heap.size ≤ q) (xw kk adx n I O) → fw_P D vwCl (mw kk adm J) H → fw_D (fun q : Nat => s.heap.size ≤ q) (mw kk adm J) → (∀ (a : Nat) (x y : va_E), xw kk adx n I O a = some x → mw kk adm J a = some y → False) → va_S (fun q : Nat => s.heap.size ≤ q) s.heap H locs → lv_has ls 4 [(3, .int (nI (i + 5))), (0, .ref b), (1, .ref (adx 0 0)), (2, .ref (adm 0 0))] → W p l e room_1 s m #[Value.ref b] below meth c H locs (35 + (i + 5)) (639 + 6 * (i + 5)) (lw_Z below #[Value.ref b] s) (F0 m 18 ls [])) : ∀ (adx adm : Nat → Nat → Nat) (n : Nat) (I : sI) (O : sO) (J : sI) (H : Heap) (locs : List Loc) (ls : Array Slot), sj (xV n) adx → sj mV adm → yI n I O → mR n I O J → fw_P D vwCl (xw kk adx n I O) H → fw_D (fun q : Nat => s.heap.size ≤ q) (xw kk adx n I O) → fw_P D vwCl (mw kk adm J) H → fw_D (fun q : Nat => s.heap.size ≤ q) (mw kk adm J) → (∀ (a : Nat) (x y : va_E), xw kk adx n I O a = some x → mw kk adm J a = some y → False) → va_S (fun q : Nat => s.heap.size ≤ q) s.heap H locs → lv_has ls 4 [(3, .int (nI i)), (0, .ref b), (1, .ref (adx 0 0)), (2, .ref (adm 0 0))] → W p l e room_1 s m #[Value.ref b] below meth c H locs (35 + i) (639 + 6 * i) (lw_Z below #[Value.ref b] s) (F0 m 198 ls []) := by
  intro adx adm n I O J H locs ls hjx hjm hY hR hPx hDx hPm hDm hdis hS hl
  obtain ⟨hx, hb, hr, hml, hown, hts, hX, hbl, hlocks, hgv⟩ := id C0
  have hown : s.vm.findClass RL = some m.cls := hown
  have hts := fun w h => hts w (wsL_law_in w h)
  have hA : ∀ q : Nat, s.heap.size ≤ q → (fun q : Nat => s.heap.size ≤ q) q := fun _ h => h
  have hbA : ¬ (fun q : Nat => s.heap.size ≤ q) b := Nat.not_le.mpr hbl
  refine lv_aload_n hx hb dL_law_198 rfl (lv_at hl 2 rfl) ?_
  refine lv_aload_n hx hb dL_law_199 rfl (lv_at hl 1 rfl) ?_
  refine lv_iload_n hx hb dL_law_200 rfl (lv_at hl 0 rfl) ?_
  refine lv_iconst (v := 1) hx hb dL_law_201 (by decide) ?_
  refine lv_iadd hx hb dL_law_202 ?_
  refine W.eq (g2 := F0 m 203 ls [.int (nI (i + 1)), .ref b, .ref (adx 0 0)]) (by rw [show (1 : Int32) = nI 1 from rfl, nI_add]) ?_
  refine va_sld hx hb hX hbl hbA hS (vp_in_nI (by omega) (by omega)) dL_law_203 ?_
  refine W.eq (g2 := F0 m 204 ls [.int (xs (i + 1)), .ref (adx 0 0)]) (by rw [nI_clamp (by omega)]) ?_
  refine lv_aload_n hx hb dL_law_204 rfl (lv_at hl 1 rfl) ?_
  refine lv_iload_n hx hb dL_law_205 rfl (lv_at hl 0 rfl) ?_
  refine lv_iconst (v := 2) hx hb dL_law_206 (by decide) ?_
  refine lv_iadd hx hb dL_law_207 ?_
  refine W.eq (g2 := F0 m 208 ls [.int (nI (i + 2)), .ref b, .int (xs (i + 1)), .ref (adx 0 0)]) (by rw [show (2 : Int32) = nI 2 from rfl, nI_add]) ?_
  refine va_sld hx hb hX hbl hbA hS (vp_in_nI (by omega) (by omega)) dL_law_208 ?_
  refine W.eq (g2 := F0 m 209 ls [.int (xs (i + 2)), .int (xs (i + 1)), .ref (adx 0 0)]) (by rw [nI_clamp (by omega)]) ?_
  refine fw_calli2 (va_runV (As := [.int (xs (i + 1)), .int (xs (i + 2))]) (rest := []) ⟨hx, hb, hml, hown, hts⟩ (c_X4_stand l D kk adx n I O hjx hY (xs (i + 1)) (xs (i + 2)) _) (cwV 2 hts gL_law_X4_stand rfl rfl rfl (by decide +kernel) ⟨Nat.le_of_ble_eq_true rfl, Nat.le_of_ble_eq_true rfl⟩) (fw_preV hK hPx (ci := 4) rfl (x_at0 hjx)) rfl rfl hl.1 rfl (lv_room (Nat.le_of_ble_eq_true rfl)) dL_law_209 ⟨by show 35 + i + 0 ≤ 639303; omega, by show 639 + 6 * i + 0 ≤ 7184338; omega⟩) hDx hS hA hPm hdis (fun r w1 H locs hq hPx hDx hS hPm hdis => ?_)
  obtain ⟨I1, O1, e1, rfl⟩ := hq
  refine lv_aload_n hx hb dL_law_212 rfl (lv_at hl 3 rfl) ?_
  refine lv_aload_n hx hb dL_law_213 rfl (lv_at hl 1 rfl) ?_
  refine lv_iload_n hx hb dL_law_214 rfl (lv_at hl 0 rfl) ?_
  refine lv_iconst (v := 1) hx hb dL_law_215 (by decide) ?_
  refine lv_iadd hx hb dL_law_216 ?_
  refine W.eq (g2 := F0 m 217 ls [.int (nI (i + 1)), .ref b, .ref (adm 0 0), .int r]) (by rw [show (1 : Int32) = nI 1 from rfl, nI_add]) ?_
  refine va_sld hx hb hX hbl hbA hS (vp_in_nI (by omega) (by omega)) dL_law_217 ?_
  refine W.eq (g2 := F0 m 218 ls [.int (xs (i + 1)), .ref (adm 0 0), .int r]) (by rw [nI_clamp (by omega)]) ?_
  refine lv_aload_n hx hb dL_law_218 rfl (lv_at hl 1 rfl) ?_
  refine lv_iload_n hx hb dL_law_219 rfl (lv_at hl 0 rfl) ?_
  refine lv_iconst (v := 2) hx hb dL_law_220 (by decide) ?_
  refine lv_iadd hx hb dL_law_221 ?_
  refine W.eq (g2 := F0 m 222 ls [.int (nI (i + 2)), .ref b, .int (xs (i + 1)), .ref (adm 0 0), .int r]) (by rw [show (2 : Int32) = nI 2 from rfl, nI_add]) ?_
  refine va_sld hx hb hX hbl hbA hS (vp_in_nI (by omega) (by omega)) dL_law_222 ?_
  refine W.eq (g2 := F0 m 223 ls [.int (xs (i + 2)), .int (xs (i + 1)), .ref (adm 0 0), .int r]) (by rw [nI_clamp (by omega)]) ?_
  refine fw_calli2 (va_runV (As := [.int (xs (i + 1)), .int (xs (i + 2))]) (rest := [.int r]) ⟨hx, hb, hml, hown, hts⟩ (c_X5_stand l D kk adm n I O J hjm hY hR (xs (i + 1)) (xs (i + 2)) _) (cwV 2 hts gL_law_X5_stand rfl rfl rfl (by decide +kernel) ⟨Nat.le_of_ble_eq_true rfl, Nat.le_of_ble_eq_true rfl⟩) (fw_preV hK hPm (ci := 5) rfl (m_at0 hjm)) rfl rfl hl.1 rfl (lv_room (Nat.le_of_ble_eq_true rfl)) dL_law_223 ⟨by show 35 + i + 0 + 0 ≤ 639303; omega, by show 639 + 6 * i + 0 + 0 ≤ 7184338; omega⟩) hDm hS hA hPx (fun a x y h1 h2 => hdis a y x h2 h1) (fun r2 w1 H locs hq hPm hDm hS hPx hdis => ?_)
  obtain ⟨I2, O2, J2, e2, hR2, rfl⟩ := hq
  rw [e1] at e2
  cases e2
  refine lv_icmp_eq (tgt := 845) hx hb dL_law_226 (by decide) (fun _ => ?_) (fun c9 => absurd rfl c9)
  refine lv_iinc (v := nI (i + 5)) (lv' := [(3, .int (nI (i + 5))), (0, .ref b), (1, .ref (adx 0 0)), (2, .ref (adm 0 0))]) hx hb dL_law_845 hl (k := 0) rfl (nI_add i 5) (by decide) rfl (fun ls hl => ?_)
  refine lv_goto (tgt := 18) hx hb dL_law_848 (by decide) ?_
  refine W.widen (k := 35 + (i + 5)) (n := 639 + 6 * (i + 5)) (by omega) (by omega) ?_
  exact kk9 adx adm n I1 O1 J2 H locs ls hjx hjm (ys_stand hY e1) hR2 hPx hDx hPm hDm (fun a x y h1 h2 => hdis a y x h2 h1) hS hl
set_option maxHeartbeats 4000000 in
set_option maxRecDepth 100000 in
theorem law_signal {p : Program} {e : Env} {s : State} {m : MethodId} {below : List Frame} {meth : Method} {c : Code} (l : Launch) {b L : Nat} {xs : Nat → Int32} (hL : L ≤ 2560) (C0 : lw_At p s m meth c b L xs) (D : va_G) (kk : Nat → ClassId) (hK : va_K D vwCl (xT kk) s) (i : Nat) (hi5 : i + 5 ≤ L) (kk9 : ∀ (adx adm : Nat → Nat → Nat) (n : Nat) (I : sI) (O : sO) (J : sI) (H : Heap) (locs : List Loc) (ls : Array Slot), sj (xV n) adx → sj mV adm → yI n I O → mR n I O J → fw_P D vwCl (xw kk adx n I O) H → fw_D (fun q : Nat => s.heap.size ≤ q) (xw kk adx n I O) → fw_P D vwCl (mw kk adm J) H → fw_D (fun q : Nat => s.heap.size ≤ q) (mw kk adm J) → (∀ (a : Nat) (x y : va_E), xw kk adx n I O a = some x → mw kk adm J a = some y → False) → va_S (fun q : Nat => s.heap.size ≤ q) s.heap H locs → lv_has ls 4 [(3, .int (nI (i + 5))), (0, .ref b), (1, .ref (adx 0 0)), (2, .ref (adm 0 0))] → W p l e room_1 s m #[Value.ref b] below meth c H locs (35 + (i + 5)) (639 + 6 * (i + 5)) (lw_Z below #[Value.ref b] s) (F0 m 18 ls [])) : ∀ (adx adm : Nat → Nat → Nat) (n : Nat) (I : sI) (O : sO) (J : sI) (H : Heap) (locs : List Loc) (ls : Array Slot), sj (xV n) adx → sj mV adm → yI n I O → mR n I O J → fw_P D vwCl (xw kk adx n I O) H → fw_D (fun q : Nat => s.heap.size ≤ q) (xw kk adx n I O) → fw_P D vwCl (mw kk adm J) H → fw_D (fun q : Nat => s.heap.size ≤ q) (mw kk adm J) → (∀ (a : Nat) (x y : va_E), xw kk adx n I O a = some x → mw kk adm J a = some y → False) → va_S (fun q : Nat => s.heap.size ≤ q) s.heap H locs → lv_has ls 4 [(3, .int (nI i)), (0, .ref b), (1, .ref (adx 0 0)), (2, .ref (adm 0 0))] → W p l e room_1 s m #[Value.ref b] below meth c H locs (35 + i) (639 + 6 * i) (lw_Z below #[Value.ref b] s) (F0 m 231 ls []) := by
  intro adx adm n I O J H locs ls hjx hjm hY hR hPx hDx hPm hDm hdis hS hl
  obtain ⟨hx, hb, hr, hml, hown, hts, hX, hbl, hlocks, hgv⟩ := id C0
  have hown : s.vm.findClass RL = some m.cls := hown
  have hts := fun w h => hts w (wsL_law_in w h)
  have hA : ∀ q : Nat, s.heap.size ≤ q → (fun q : Nat => s.heap.size ≤ q) q := fun _ h => h
  have hbA : ¬ (fun q : Nat => s.heap.size ≤ q) b := Nat.not_le.mpr hbl
  refine lv_aload_n hx hb dL_law_231 rfl (lv_at hl 2 rfl) ?_
  refine lv_aload_n hx hb dL_law_232 rfl (lv_at hl 1 rfl) ?_
  refine lv_iload_n hx hb dL_law_233 rfl (lv_at hl 0 rfl) ?_
  refine lv_iconst (v := 1) hx hb dL_law_234 (by decide) ?_
  refine lv_iadd hx hb dL_law_235 ?_
  refine W.eq (g2 := F0 m 236 ls [.int (nI (i + 1)), .ref b, .ref (adx 0 0)]) (by rw [show (1 : Int32) = nI 1 from rfl, nI_add]) ?_
  refine va_sld hx hb hX hbl hbA hS (vp_in_nI (by omega) (by omega)) dL_law_236 ?_
  refine W.eq (g2 := F0 m 237 ls [.int (xs (i + 1)), .ref (adx 0 0)]) (by rw [nI_clamp (by omega)]) ?_
  refine lv_aload_n hx hb dL_law_237 rfl (lv_at hl 1 rfl) ?_
  refine lv_iload_n hx hb dL_law_238 rfl (lv_at hl 0 rfl) ?_
  refine lv_iconst (v := 2) hx hb dL_law_239 (by decide) ?_
  refine lv_iadd hx hb dL_law_240 ?_
  refine W.eq (g2 := F0 m 241 ls [.int (nI (i + 2)), .ref b, .int (xs (i + 1)), .ref (adx 0 0)]) (by rw [show (2 : Int32) = nI 2 from rfl, nI_add]) ?_
  refine va_sld hx hb hX hbl hbA hS (vp_in_nI (by omega) (by omega)) dL_law_241 ?_
  refine W.eq (g2 := F0 m 242 ls [.int (xs (i + 2)), .int (xs (i + 1)), .ref (adx 0 0)]) (by rw [nI_clamp (by omega)]) ?_
  refine fw_calli2 (va_runV (As := [.int (xs (i + 1)), .int (xs (i + 2))]) (rest := []) ⟨hx, hb, hml, hown, hts⟩ (c_X4_signal l D kk adx n I O hjx hY (xs (i + 1)) (xs (i + 2)) _) (cwV 2 hts gL_law_X4_signal rfl rfl rfl (by decide +kernel) ⟨Nat.le_of_ble_eq_true rfl, Nat.le_of_ble_eq_true rfl⟩) (fw_preV hK hPx (ci := 4) rfl (x_at0 hjx)) rfl rfl hl.1 rfl (lv_room (Nat.le_of_ble_eq_true rfl)) dL_law_242 ⟨by show 35 + i + 0 ≤ 639303; omega, by show 639 + 6 * i + 0 ≤ 7184338; omega⟩) hDx hS hA hPm hdis (fun r w1 H locs hq hPx hDx hS hPm hdis => ?_)
  obtain ⟨I1, O1, e1, rfl⟩ := hq
  refine lv_aload_n hx hb dL_law_245 rfl (lv_at hl 3 rfl) ?_
  refine lv_aload_n hx hb dL_law_246 rfl (lv_at hl 1 rfl) ?_
  refine lv_iload_n hx hb dL_law_247 rfl (lv_at hl 0 rfl) ?_
  refine lv_iconst (v := 1) hx hb dL_law_248 (by decide) ?_
  refine lv_iadd hx hb dL_law_249 ?_
  refine W.eq (g2 := F0 m 250 ls [.int (nI (i + 1)), .ref b, .ref (adm 0 0), .int r]) (by rw [show (1 : Int32) = nI 1 from rfl, nI_add]) ?_
  refine va_sld hx hb hX hbl hbA hS (vp_in_nI (by omega) (by omega)) dL_law_250 ?_
  refine W.eq (g2 := F0 m 251 ls [.int (xs (i + 1)), .ref (adm 0 0), .int r]) (by rw [nI_clamp (by omega)]) ?_
  refine lv_aload_n hx hb dL_law_251 rfl (lv_at hl 1 rfl) ?_
  refine lv_iload_n hx hb dL_law_252 rfl (lv_at hl 0 rfl) ?_
  refine lv_iconst (v := 2) hx hb dL_law_253 (by decide) ?_
  refine lv_iadd hx hb dL_law_254 ?_
  refine W.eq (g2 := F0 m 255 ls [.int (nI (i + 2)), .ref b, .int (xs (i + 1)), .ref (adm 0 0), .int r]) (by rw [show (2 : Int32) = nI 2 from rfl, nI_add]) ?_
  refine va_sld hx hb hX hbl hbA hS (vp_in_nI (by omega) (by omega)) dL_law_255 ?_
  refine W.eq (g2 := F0 m 256 ls [.int (xs (i + 2)), .int (xs (i + 1)), .ref (adm 0 0), .int r]) (by rw [nI_clamp (by omega)]) ?_
  refine fw_calli2 (va_runV (As := [.int (xs (i + 1)), .int (xs (i + 2))]) (rest := [.int r]) ⟨hx, hb, hml, hown, hts⟩ (c_X5_signal l D kk adm n I O J hjm hY hR (xs (i + 1)) (xs (i + 2)) _) (cwV 2 hts gL_law_X5_signal rfl rfl rfl (by decide +kernel) ⟨Nat.le_of_ble_eq_true rfl, Nat.le_of_ble_eq_true rfl⟩) (fw_preV hK hPm (ci := 5) rfl (m_at0 hjm)) rfl rfl hl.1 rfl (lv_room (Nat.le_of_ble_eq_true rfl)) dL_law_256 ⟨by show 35 + i + 0 + 0 ≤ 639303; omega, by show 639 + 6 * i + 0 + 0 ≤ 7184338; omega⟩) hDm hS hA hPx (fun a x y h1 h2 => hdis a y x h2 h1) (fun r2 w1 H locs hq hPm hDm hS hPx hdis => ?_)
  obtain ⟨I2, O2, J2, e2, hR2, rfl⟩ := hq
  rw [e1] at e2
  cases e2
  refine lv_icmp_eq (tgt := 845) hx hb dL_law_259 (by decide) (fun _ => ?_) (fun c9 => absurd rfl c9)
  refine lv_iinc (v := nI (i + 5)) (lv' := [(3, .int (nI (i + 5))), (0, .ref b), (1, .ref (adx 0 0)), (2, .ref (adm 0 0))]) hx hb dL_law_845 hl (k := 0) rfl (nI_add i 5) (by decide) rfl (fun ls hl => ?_)
  refine lv_goto (tgt := 18) hx hb dL_law_848 (by decide) ?_
  refine W.widen (k := 35 + (i + 5)) (n := 639 + 6 * (i + 5)) (by omega) (by omega) ?_
  exact kk9 adx adm n I1 O1 J2 H locs ls hjx hjm (ys_signal hY e1) hR2 hPx hDx hPm hDm (fun a x y h1 h2 => hdis a y x h2 h1) hS hl
set_option maxHeartbeats 4000000 in
set_option maxRecDepth 100000 in
theorem law_wagonAt {p : Program} {e : Env} {s : State} {m : MethodId} {below : List Frame} {meth : Method} {c : Code} (l : Launch) {b L : Nat} {xs : Nat → Int32} (hL : L ≤ 2560) (C0 : lw_At p s m meth c b L xs) (D : va_G) (kk : Nat → ClassId) (hK : va_K D vwCl (xT kk) s) (i : Nat) (hi5 : i + 5 ≤ L) (kk9 : ∀ (adx adm : Nat → Nat → Nat) (n : Nat) (I : sI) (O : sO) (J : sI) (H : Heap) (locs : List Loc) (ls : Array Slot), sj (xV n) adx → sj mV adm → yI n I O → mR n I O J → fw_P D vwCl (xw kk adx n I O) H → fw_D (fun q : Nat => s.heap.size ≤ q) (xw kk adx n I O) → fw_P D vwCl (mw kk adm J) H → fw_D (fun q : Nat => s.heap.size ≤ q) (mw kk adm J) → (∀ (a : Nat) (x y : va_E), xw kk adx n I O a = some x → mw kk adm J a = some y → False) → va_S (fun q : Nat => s.heap.size ≤ q) s.heap H locs → lv_has ls 4 [(3, .int (nI (i + 5))), (0, .ref b), (1, .ref (adx 0 0)), (2, .ref (adm 0 0))] → W p l e room_1 s m #[Value.ref b] below meth c H locs (35 + (i + 5)) (639 + 6 * (i + 5)) (lw_Z below #[Value.ref b] s) (F0 m 18 ls [])) : ∀ (adx adm : Nat → Nat → Nat) (n : Nat) (I : sI) (O : sO) (J : sI) (H : Heap) (locs : List Loc) (ls : Array Slot), sj (xV n) adx → sj mV adm → yI n I O → mR n I O J → fw_P D vwCl (xw kk adx n I O) H → fw_D (fun q : Nat => s.heap.size ≤ q) (xw kk adx n I O) → fw_P D vwCl (mw kk adm J) H → fw_D (fun q : Nat => s.heap.size ≤ q) (mw kk adm J) → (∀ (a : Nat) (x y : va_E), xw kk adx n I O a = some x → mw kk adm J a = some y → False) → va_S (fun q : Nat => s.heap.size ≤ q) s.heap H locs → lv_has ls 4 [(3, .int (nI i)), (0, .ref b), (1, .ref (adx 0 0)), (2, .ref (adm 0 0))] → W p l e room_1 s m #[Value.ref b] below meth c H locs (35 + i) (639 + 6 * i) (lw_Z below #[Value.ref b] s) (F0 m 264 ls []) := by
  intro adx adm n I O J H locs ls hjx hjm hY hR hPx hDx hPm hDm hdis hS hl
  obtain ⟨hx, hb, hr, hml, hown, hts, hX, hbl, hlocks, hgv⟩ := id C0
  have hown : s.vm.findClass RL = some m.cls := hown
  have hts := fun w h => hts w (wsL_law_in w h)
  have hA : ∀ q : Nat, s.heap.size ≤ q → (fun q : Nat => s.heap.size ≤ q) q := fun _ h => h
  have hbA : ¬ (fun q : Nat => s.heap.size ≤ q) b := Nat.not_le.mpr hbl
  refine lv_aload_n hx hb dL_law_264 rfl (lv_at hl 2 rfl) ?_
  refine lv_aload_n hx hb dL_law_265 rfl (lv_at hl 1 rfl) ?_
  refine lv_iload_n hx hb dL_law_266 rfl (lv_at hl 0 rfl) ?_
  refine lv_iconst (v := 1) hx hb dL_law_267 (by decide) ?_
  refine lv_iadd hx hb dL_law_268 ?_
  refine W.eq (g2 := F0 m 269 ls [.int (nI (i + 1)), .ref b, .ref (adx 0 0)]) (by rw [show (1 : Int32) = nI 1 from rfl, nI_add]) ?_
  refine va_sld hx hb hX hbl hbA hS (vp_in_nI (by omega) (by omega)) dL_law_269 ?_
  refine W.eq (g2 := F0 m 270 ls [.int (xs (i + 1)), .ref (adx 0 0)]) (by rw [nI_clamp (by omega)]) ?_
  refine lv_aload_n hx hb dL_law_270 rfl (lv_at hl 1 rfl) ?_
  refine lv_iload_n hx hb dL_law_271 rfl (lv_at hl 0 rfl) ?_
  refine lv_iconst (v := 2) hx hb dL_law_272 (by decide) ?_
  refine lv_iadd hx hb dL_law_273 ?_
  refine W.eq (g2 := F0 m 274 ls [.int (nI (i + 2)), .ref b, .int (xs (i + 1)), .ref (adx 0 0)]) (by rw [show (2 : Int32) = nI 2 from rfl, nI_add]) ?_
  refine va_sld hx hb hX hbl hbA hS (vp_in_nI (by omega) (by omega)) dL_law_274 ?_
  refine W.eq (g2 := F0 m 275 ls [.int (xs (i + 2)), .int (xs (i + 1)), .ref (adx 0 0)]) (by rw [nI_clamp (by omega)]) ?_
  refine fw_calli2 (va_runV (As := [.int (xs (i + 1)), .int (xs (i + 2))]) (rest := []) ⟨hx, hb, hml, hown, hts⟩ (c_X4_wagonAt l D kk adx n I O hjx hY (xs (i + 1)) (xs (i + 2)) _) (cwV 2 hts gL_law_X4_wagonAt rfl rfl rfl (by decide +kernel) ⟨Nat.le_of_ble_eq_true rfl, Nat.le_of_ble_eq_true rfl⟩) (fw_preV hK hPx (ci := 4) rfl (x_at0 hjx)) rfl rfl hl.1 rfl (lv_room (Nat.le_of_ble_eq_true rfl)) dL_law_275 ⟨by show 35 + i + 0 ≤ 639303; omega, by show 639 + 6 * i + 0 ≤ 7184338; omega⟩) hDx hS hA hPm hdis (fun r w1 H locs hq hPx hDx hS hPm hdis => ?_)
  obtain ⟨I1, O1, e1, rfl⟩ := hq
  refine lv_aload_n hx hb dL_law_278 rfl (lv_at hl 3 rfl) ?_
  refine lv_aload_n hx hb dL_law_279 rfl (lv_at hl 1 rfl) ?_
  refine lv_iload_n hx hb dL_law_280 rfl (lv_at hl 0 rfl) ?_
  refine lv_iconst (v := 1) hx hb dL_law_281 (by decide) ?_
  refine lv_iadd hx hb dL_law_282 ?_
  refine W.eq (g2 := F0 m 283 ls [.int (nI (i + 1)), .ref b, .ref (adm 0 0), .int r]) (by rw [show (1 : Int32) = nI 1 from rfl, nI_add]) ?_
  refine va_sld hx hb hX hbl hbA hS (vp_in_nI (by omega) (by omega)) dL_law_283 ?_
  refine W.eq (g2 := F0 m 284 ls [.int (xs (i + 1)), .ref (adm 0 0), .int r]) (by rw [nI_clamp (by omega)]) ?_
  refine lv_aload_n hx hb dL_law_284 rfl (lv_at hl 1 rfl) ?_
  refine lv_iload_n hx hb dL_law_285 rfl (lv_at hl 0 rfl) ?_
  refine lv_iconst (v := 2) hx hb dL_law_286 (by decide) ?_
  refine lv_iadd hx hb dL_law_287 ?_
  refine W.eq (g2 := F0 m 288 ls [.int (nI (i + 2)), .ref b, .int (xs (i + 1)), .ref (adm 0 0), .int r]) (by rw [show (2 : Int32) = nI 2 from rfl, nI_add]) ?_
  refine va_sld hx hb hX hbl hbA hS (vp_in_nI (by omega) (by omega)) dL_law_288 ?_
  refine W.eq (g2 := F0 m 289 ls [.int (xs (i + 2)), .int (xs (i + 1)), .ref (adm 0 0), .int r]) (by rw [nI_clamp (by omega)]) ?_
  refine fw_calli2 (va_runV (As := [.int (xs (i + 1)), .int (xs (i + 2))]) (rest := [.int r]) ⟨hx, hb, hml, hown, hts⟩ (c_X5_wagonAt l D kk adm n I O J hjm hY hR (xs (i + 1)) (xs (i + 2)) _) (cwV 2 hts gL_law_X5_wagonAt rfl rfl rfl (by decide +kernel) ⟨Nat.le_of_ble_eq_true rfl, Nat.le_of_ble_eq_true rfl⟩) (fw_preV hK hPm (ci := 5) rfl (m_at0 hjm)) rfl rfl hl.1 rfl (lv_room (Nat.le_of_ble_eq_true rfl)) dL_law_289 ⟨by show 35 + i + 0 + 0 ≤ 639303; omega, by show 639 + 6 * i + 0 + 0 ≤ 7184338; omega⟩) hDm hS hA hPx (fun a x y h1 h2 => hdis a y x h2 h1) (fun r2 w1 H locs hq hPm hDm hS hPx hdis => ?_)
  obtain ⟨I2, O2, J2, e2, hR2, rfl⟩ := hq
  rw [e1] at e2
  cases e2
  refine lv_icmp_eq (tgt := 845) hx hb dL_law_292 (by decide) (fun _ => ?_) (fun c9 => absurd rfl c9)
  refine lv_iinc (v := nI (i + 5)) (lv' := [(3, .int (nI (i + 5))), (0, .ref b), (1, .ref (adx 0 0)), (2, .ref (adm 0 0))]) hx hb dL_law_845 hl (k := 0) rfl (nI_add i 5) (by decide) rfl (fun ls hl => ?_)
  refine lv_goto (tgt := 18) hx hb dL_law_848 (by decide) ?_
  refine W.widen (k := 35 + (i + 5)) (n := 639 + 6 * (i + 5)) (by omega) (by omega) ?_
  exact kk9 adx adm n I1 O1 J2 H locs ls hjx hjm (ys_wagonAt hY e1) hR2 hPx hDx hPm hDm (fun a x y h1 h2 => hdis a y x h2 h1) hS hl
set_option maxHeartbeats 4000000 in
set_option maxRecDepth 100000 in
theorem law_load {p : Program} {e : Env} {s : State} {m : MethodId} {below : List Frame} {meth : Method} {c : Code} (l : Launch) {b L : Nat} {xs : Nat → Int32} (hL : L ≤ 2560) (C0 : lw_At p s m meth c b L xs) (D : va_G) (kk : Nat → ClassId) (hK : va_K D vwCl (xT kk) s) (i : Nat) (hi5 : i + 5 ≤ L) (kk9 : ∀ (adx adm : Nat → Nat → Nat) (n : Nat) (I : sI) (O : sO) (J : sI) (H : Heap) (locs : List Loc) (ls : Array Slot), sj (xV n) adx → sj mV adm → yI n I O → mR n I O J → fw_P D vwCl (xw kk adx n I O) H → fw_D (fun q : Nat => s.heap.size ≤ q) (xw kk adx n I O) → fw_P D vwCl (mw kk adm J) H → fw_D (fun q : Nat => s.heap.size ≤ q) (mw kk adm J) → (∀ (a : Nat) (x y : va_E), xw kk adx n I O a = some x → mw kk adm J a = some y → False) → va_S (fun q : Nat => s.heap.size ≤ q) s.heap H locs → lv_has ls 4 [(3, .int (nI (i + 5))), (0, .ref b), (1, .ref (adx 0 0)), (2, .ref (adm 0 0))] → W p l e room_1 s m #[Value.ref b] below meth c H locs (35 + (i + 5)) (639 + 6 * (i + 5)) (lw_Z below #[Value.ref b] s) (F0 m 18 ls [])) : ∀ (adx adm : Nat → Nat → Nat) (n : Nat) (I : sI) (O : sO) (J : sI) (H : Heap) (locs : List Loc) (ls : Array Slot), sj (xV n) adx → sj mV adm → yI n I O → mR n I O J → fw_P D vwCl (xw kk adx n I O) H → fw_D (fun q : Nat => s.heap.size ≤ q) (xw kk adx n I O) → fw_P D vwCl (mw kk adm J) H → fw_D (fun q : Nat => s.heap.size ≤ q) (mw kk adm J) → (∀ (a : Nat) (x y : va_E), xw kk adx n I O a = some x → mw kk adm J a = some y → False) → va_S (fun q : Nat => s.heap.size ≤ q) s.heap H locs → lv_has ls 4 [(3, .int (nI i)), (0, .ref b), (1, .ref (adx 0 0)), (2, .ref (adm 0 0))] → W p l e room_1 s m #[Value.ref b] below meth c H locs (35 + i) (639 + 6 * i) (lw_Z below #[Value.ref b] s) (F0 m 297 ls []) := by
  intro adx adm n I O J H locs ls hjx hjm hY hR hPx hDx hPm hDm hdis hS hl
  obtain ⟨hx, hb, hr, hml, hown, hts, hX, hbl, hlocks, hgv⟩ := id C0
  have hown : s.vm.findClass RL = some m.cls := hown
  have hts := fun w h => hts w (wsL_law_in w h)
  have hA : ∀ q : Nat, s.heap.size ≤ q → (fun q : Nat => s.heap.size ≤ q) q := fun _ h => h
  have hbA : ¬ (fun q : Nat => s.heap.size ≤ q) b := Nat.not_le.mpr hbl
  refine lv_aload_n hx hb dL_law_297 rfl (lv_at hl 2 rfl) ?_
  refine lv_aload_n hx hb dL_law_298 rfl (lv_at hl 1 rfl) ?_
  refine lv_iload_n hx hb dL_law_299 rfl (lv_at hl 0 rfl) ?_
  refine lv_iconst (v := 1) hx hb dL_law_300 (by decide) ?_
  refine lv_iadd hx hb dL_law_301 ?_
  refine W.eq (g2 := F0 m 302 ls [.int (nI (i + 1)), .ref b, .ref (adx 0 0)]) (by rw [show (1 : Int32) = nI 1 from rfl, nI_add]) ?_
  refine va_sld hx hb hX hbl hbA hS (vp_in_nI (by omega) (by omega)) dL_law_302 ?_
  refine W.eq (g2 := F0 m 303 ls [.int (xs (i + 1)), .ref (adx 0 0)]) (by rw [nI_clamp (by omega)]) ?_
  refine lv_aload_n hx hb dL_law_303 rfl (lv_at hl 1 rfl) ?_
  refine lv_iload_n hx hb dL_law_304 rfl (lv_at hl 0 rfl) ?_
  refine lv_iconst (v := 2) hx hb dL_law_305 (by decide) ?_
  refine lv_iadd hx hb dL_law_306 ?_
  refine W.eq (g2 := F0 m 307 ls [.int (nI (i + 2)), .ref b, .int (xs (i + 1)), .ref (adx 0 0)]) (by rw [show (2 : Int32) = nI 2 from rfl, nI_add]) ?_
  refine va_sld hx hb hX hbl hbA hS (vp_in_nI (by omega) (by omega)) dL_law_307 ?_
  refine W.eq (g2 := F0 m 308 ls [.int (xs (i + 2)), .int (xs (i + 1)), .ref (adx 0 0)]) (by rw [nI_clamp (by omega)]) ?_
  refine lv_aload_n hx hb dL_law_308 rfl (lv_at hl 1 rfl) ?_
  refine lv_iload_n hx hb dL_law_309 rfl (lv_at hl 0 rfl) ?_
  refine lv_iconst (v := 3) hx hb dL_law_310 (by decide) ?_
  refine lv_iadd hx hb dL_law_311 ?_
  refine W.eq (g2 := F0 m 312 ls [.int (nI (i + 3)), .ref b, .int (xs (i + 2)), .int (xs (i + 1)), .ref (adx 0 0)]) (by rw [show (3 : Int32) = nI 3 from rfl, nI_add]) ?_
  refine va_sld hx hb hX hbl hbA hS (vp_in_nI (by omega) (by omega)) dL_law_312 ?_
  refine W.eq (g2 := F0 m 313 ls [.int (xs (i + 3)), .int (xs (i + 2)), .int (xs (i + 1)), .ref (adx 0 0)]) (by rw [nI_clamp (by omega)]) ?_
  refine fw_calli2 (va_runV (As := [.int (xs (i + 1)), .int (xs (i + 2)), .int (xs (i + 3))]) (rest := []) ⟨hx, hb, hml, hown, hts⟩ (c_X4_load l D kk adx n I O hjx hY (xs (i + 1)) (xs (i + 2)) (xs (i + 3)) _) (cwV 3 hts gL_law_X4_load rfl rfl rfl (by decide +kernel) ⟨Nat.le_of_ble_eq_true rfl, Nat.le_of_ble_eq_true rfl⟩) (fw_preV hK hPx (ci := 4) rfl (x_at0 hjx)) rfl rfl hl.1 rfl (lv_room (Nat.le_of_ble_eq_true rfl)) dL_law_313 ⟨by show 35 + i + 0 ≤ 639303; omega, by show 639 + 6 * i + 0 ≤ 7184338; omega⟩) hDx hS hA hPm hdis (fun r w1 H locs hq hPx hDx hS hPm hdis => ?_)
  obtain ⟨I1, O1, e1, rfl⟩ := hq
  refine lv_aload_n hx hb dL_law_316 rfl (lv_at hl 3 rfl) ?_
  refine lv_aload_n hx hb dL_law_317 rfl (lv_at hl 1 rfl) ?_
  refine lv_iload_n hx hb dL_law_318 rfl (lv_at hl 0 rfl) ?_
  refine lv_iconst (v := 1) hx hb dL_law_319 (by decide) ?_
  refine lv_iadd hx hb dL_law_320 ?_
  refine W.eq (g2 := F0 m 321 ls [.int (nI (i + 1)), .ref b, .ref (adm 0 0), .int r]) (by rw [show (1 : Int32) = nI 1 from rfl, nI_add]) ?_
  refine va_sld hx hb hX hbl hbA hS (vp_in_nI (by omega) (by omega)) dL_law_321 ?_
  refine W.eq (g2 := F0 m 322 ls [.int (xs (i + 1)), .ref (adm 0 0), .int r]) (by rw [nI_clamp (by omega)]) ?_
  refine lv_aload_n hx hb dL_law_322 rfl (lv_at hl 1 rfl) ?_
  refine lv_iload_n hx hb dL_law_323 rfl (lv_at hl 0 rfl) ?_
  refine lv_iconst (v := 2) hx hb dL_law_324 (by decide) ?_
  refine lv_iadd hx hb dL_law_325 ?_
  refine W.eq (g2 := F0 m 326 ls [.int (nI (i + 2)), .ref b, .int (xs (i + 1)), .ref (adm 0 0), .int r]) (by rw [show (2 : Int32) = nI 2 from rfl, nI_add]) ?_
  refine va_sld hx hb hX hbl hbA hS (vp_in_nI (by omega) (by omega)) dL_law_326 ?_
  refine W.eq (g2 := F0 m 327 ls [.int (xs (i + 2)), .int (xs (i + 1)), .ref (adm 0 0), .int r]) (by rw [nI_clamp (by omega)]) ?_
  refine lv_aload_n hx hb dL_law_327 rfl (lv_at hl 1 rfl) ?_
  refine lv_iload_n hx hb dL_law_328 rfl (lv_at hl 0 rfl) ?_
  refine lv_iconst (v := 3) hx hb dL_law_329 (by decide) ?_
  refine lv_iadd hx hb dL_law_330 ?_
  refine W.eq (g2 := F0 m 331 ls [.int (nI (i + 3)), .ref b, .int (xs (i + 2)), .int (xs (i + 1)), .ref (adm 0 0), .int r]) (by rw [show (3 : Int32) = nI 3 from rfl, nI_add]) ?_
  refine va_sld hx hb hX hbl hbA hS (vp_in_nI (by omega) (by omega)) dL_law_331 ?_
  refine W.eq (g2 := F0 m 332 ls [.int (xs (i + 3)), .int (xs (i + 2)), .int (xs (i + 1)), .ref (adm 0 0), .int r]) (by rw [nI_clamp (by omega)]) ?_
  refine fw_calli2 (va_runV (As := [.int (xs (i + 1)), .int (xs (i + 2)), .int (xs (i + 3))]) (rest := [.int r]) ⟨hx, hb, hml, hown, hts⟩ (c_X5_load l D kk adm n I O J hjm hY hR (xs (i + 1)) (xs (i + 2)) (xs (i + 3)) _) (cwV 3 hts gL_law_X5_load rfl rfl rfl (by decide +kernel) ⟨Nat.le_of_ble_eq_true rfl, Nat.le_of_ble_eq_true rfl⟩) (fw_preV hK hPm (ci := 5) rfl (m_at0 hjm)) rfl rfl hl.1 rfl (lv_room (Nat.le_of_ble_eq_true rfl)) dL_law_332 ⟨by show 35 + i + 0 + 0 ≤ 639303; omega, by show 639 + 6 * i + 0 + 0 ≤ 7184338; omega⟩) hDm hS hA hPx (fun a x y h1 h2 => hdis a y x h2 h1) (fun r2 w1 H locs hq hPm hDm hS hPx hdis => ?_)
  obtain ⟨I2, O2, J2, e2, hR2, rfl⟩ := hq
  rw [e1] at e2
  cases e2
  refine lv_icmp_eq (tgt := 845) hx hb dL_law_335 (by decide) (fun _ => ?_) (fun c9 => absurd rfl c9)
  refine lv_iinc (v := nI (i + 5)) (lv' := [(3, .int (nI (i + 5))), (0, .ref b), (1, .ref (adx 0 0)), (2, .ref (adm 0 0))]) hx hb dL_law_845 hl (k := 0) rfl (nI_add i 5) (by decide) rfl (fun ls hl => ?_)
  refine lv_goto (tgt := 18) hx hb dL_law_848 (by decide) ?_
  refine W.widen (k := 35 + (i + 5)) (n := 639 + 6 * (i + 5)) (by omega) (by omega) ?_
  exact kk9 adx adm n I1 O1 J2 H locs ls hjx hjm (ys_load hY e1) hR2 hPx hDx hPm hDm (fun a x y h1 h2 => hdis a y x h2 h1) hS hl
set_option maxHeartbeats 4000000 in
set_option maxRecDepth 100000 in
theorem law_cut {p : Program} {e : Env} {s : State} {m : MethodId} {below : List Frame} {meth : Method} {c : Code} (l : Launch) {b L : Nat} {xs : Nat → Int32} (hL : L ≤ 2560) (C0 : lw_At p s m meth c b L xs) (D : va_G) (kk : Nat → ClassId) (hK : va_K D vwCl (xT kk) s) (i : Nat) (hi5 : i + 5 ≤ L) (kk9 : ∀ (adx adm : Nat → Nat → Nat) (n : Nat) (I : sI) (O : sO) (J : sI) (H : Heap) (locs : List Loc) (ls : Array Slot), sj (xV n) adx → sj mV adm → yI n I O → mR n I O J → fw_P D vwCl (xw kk adx n I O) H → fw_D (fun q : Nat => s.heap.size ≤ q) (xw kk adx n I O) → fw_P D vwCl (mw kk adm J) H → fw_D (fun q : Nat => s.heap.size ≤ q) (mw kk adm J) → (∀ (a : Nat) (x y : va_E), xw kk adx n I O a = some x → mw kk adm J a = some y → False) → va_S (fun q : Nat => s.heap.size ≤ q) s.heap H locs → lv_has ls 4 [(3, .int (nI (i + 5))), (0, .ref b), (1, .ref (adx 0 0)), (2, .ref (adm 0 0))] → W p l e room_1 s m #[Value.ref b] below meth c H locs (35 + (i + 5)) (639 + 6 * (i + 5)) (lw_Z below #[Value.ref b] s) (F0 m 18 ls [])) : ∀ (adx adm : Nat → Nat → Nat) (n : Nat) (I : sI) (O : sO) (J : sI) (H : Heap) (locs : List Loc) (ls : Array Slot), sj (xV n) adx → sj mV adm → yI n I O → mR n I O J → fw_P D vwCl (xw kk adx n I O) H → fw_D (fun q : Nat => s.heap.size ≤ q) (xw kk adx n I O) → fw_P D vwCl (mw kk adm J) H → fw_D (fun q : Nat => s.heap.size ≤ q) (mw kk adm J) → (∀ (a : Nat) (x y : va_E), xw kk adx n I O a = some x → mw kk adm J a = some y → False) → va_S (fun q : Nat => s.heap.size ≤ q) s.heap H locs → lv_has ls 4 [(3, .int (nI i)), (0, .ref b), (1, .ref (adx 0 0)), (2, .ref (adm 0 0))] → W p l e room_1 s m #[Value.ref b] below meth c H locs (35 + i) (639 + 6 * i) (lw_Z below #[Value.ref b] s) (F0 m 340 ls []) := by
  intro adx adm n I O J H locs ls hjx hjm hY hR hPx hDx hPm hDm hdis hS hl
  obtain ⟨hx, hb, hr, hml, hown, hts, hX, hbl, hlocks, hgv⟩ := id C0
  have hown : s.vm.findClass RL = some m.cls := hown
  have hts := fun w h => hts w (wsL_law_in w h)
  have hA : ∀ q : Nat, s.heap.size ≤ q → (fun q : Nat => s.heap.size ≤ q) q := fun _ h => h
  have hbA : ¬ (fun q : Nat => s.heap.size ≤ q) b := Nat.not_le.mpr hbl
  refine lv_aload_n hx hb dL_law_340 rfl (lv_at hl 2 rfl) ?_
  refine lv_aload_n hx hb dL_law_341 rfl (lv_at hl 1 rfl) ?_
  refine lv_iload_n hx hb dL_law_342 rfl (lv_at hl 0 rfl) ?_
  refine lv_iconst (v := 1) hx hb dL_law_343 (by decide) ?_
  refine lv_iadd hx hb dL_law_344 ?_
  refine W.eq (g2 := F0 m 345 ls [.int (nI (i + 1)), .ref b, .ref (adx 0 0)]) (by rw [show (1 : Int32) = nI 1 from rfl, nI_add]) ?_
  refine va_sld hx hb hX hbl hbA hS (vp_in_nI (by omega) (by omega)) dL_law_345 ?_
  refine W.eq (g2 := F0 m 346 ls [.int (xs (i + 1)), .ref (adx 0 0)]) (by rw [nI_clamp (by omega)]) ?_
  refine lv_aload_n hx hb dL_law_346 rfl (lv_at hl 1 rfl) ?_
  refine lv_iload_n hx hb dL_law_347 rfl (lv_at hl 0 rfl) ?_
  refine lv_iconst (v := 2) hx hb dL_law_348 (by decide) ?_
  refine lv_iadd hx hb dL_law_349 ?_
  refine W.eq (g2 := F0 m 350 ls [.int (nI (i + 2)), .ref b, .int (xs (i + 1)), .ref (adx 0 0)]) (by rw [show (2 : Int32) = nI 2 from rfl, nI_add]) ?_
  refine va_sld hx hb hX hbl hbA hS (vp_in_nI (by omega) (by omega)) dL_law_350 ?_
  refine W.eq (g2 := F0 m 351 ls [.int (xs (i + 2)), .int (xs (i + 1)), .ref (adx 0 0)]) (by rw [nI_clamp (by omega)]) ?_
  refine fw_calli2 (va_runV (As := [.int (xs (i + 1)), .int (xs (i + 2))]) (rest := []) ⟨hx, hb, hml, hown, hts⟩ (c_X4_cut l D kk adx n I O hjx hY (xs (i + 1)) (xs (i + 2)) _) (cwV 2 hts gL_law_X4_cut rfl rfl rfl (by decide +kernel) ⟨Nat.le_of_ble_eq_true rfl, Nat.le_of_ble_eq_true rfl⟩) (fw_preV hK hPx (ci := 4) rfl (x_at0 hjx)) rfl rfl hl.1 rfl (lv_room (Nat.le_of_ble_eq_true rfl)) dL_law_351 ⟨by show 35 + i + 0 ≤ 639303; omega, by show 639 + 6 * i + 0 ≤ 7184338; omega⟩) hDx hS hA hPm hdis (fun r w1 H locs hq hPx hDx hS hPm hdis => ?_)
  obtain ⟨I1, O1, e1, rfl⟩ := hq
  refine lv_aload_n hx hb dL_law_354 rfl (lv_at hl 3 rfl) ?_
  refine lv_aload_n hx hb dL_law_355 rfl (lv_at hl 1 rfl) ?_
  refine lv_iload_n hx hb dL_law_356 rfl (lv_at hl 0 rfl) ?_
  refine lv_iconst (v := 1) hx hb dL_law_357 (by decide) ?_
  refine lv_iadd hx hb dL_law_358 ?_
  refine W.eq (g2 := F0 m 359 ls [.int (nI (i + 1)), .ref b, .ref (adm 0 0), .int r]) (by rw [show (1 : Int32) = nI 1 from rfl, nI_add]) ?_
  refine va_sld hx hb hX hbl hbA hS (vp_in_nI (by omega) (by omega)) dL_law_359 ?_
  refine W.eq (g2 := F0 m 360 ls [.int (xs (i + 1)), .ref (adm 0 0), .int r]) (by rw [nI_clamp (by omega)]) ?_
  refine lv_aload_n hx hb dL_law_360 rfl (lv_at hl 1 rfl) ?_
  refine lv_iload_n hx hb dL_law_361 rfl (lv_at hl 0 rfl) ?_
  refine lv_iconst (v := 2) hx hb dL_law_362 (by decide) ?_
  refine lv_iadd hx hb dL_law_363 ?_
  refine W.eq (g2 := F0 m 364 ls [.int (nI (i + 2)), .ref b, .int (xs (i + 1)), .ref (adm 0 0), .int r]) (by rw [show (2 : Int32) = nI 2 from rfl, nI_add]) ?_
  refine va_sld hx hb hX hbl hbA hS (vp_in_nI (by omega) (by omega)) dL_law_364 ?_
  refine W.eq (g2 := F0 m 365 ls [.int (xs (i + 2)), .int (xs (i + 1)), .ref (adm 0 0), .int r]) (by rw [nI_clamp (by omega)]) ?_
  refine fw_calli2 (va_runV (As := [.int (xs (i + 1)), .int (xs (i + 2))]) (rest := [.int r]) ⟨hx, hb, hml, hown, hts⟩ (c_X5_cut l D kk adm n I O J hjm hY hR (xs (i + 1)) (xs (i + 2)) _) (cwV 2 hts gL_law_X5_cut rfl rfl rfl (by decide +kernel) ⟨Nat.le_of_ble_eq_true rfl, Nat.le_of_ble_eq_true rfl⟩) (fw_preV hK hPm (ci := 5) rfl (m_at0 hjm)) rfl rfl hl.1 rfl (lv_room (Nat.le_of_ble_eq_true rfl)) dL_law_365 ⟨by show 35 + i + 0 + 0 ≤ 639303; omega, by show 639 + 6 * i + 0 + 0 ≤ 7184338; omega⟩) hDm hS hA hPx (fun a x y h1 h2 => hdis a y x h2 h1) (fun r2 w1 H locs hq hPm hDm hS hPx hdis => ?_)
  obtain ⟨I2, O2, J2, e2, hR2, rfl⟩ := hq
  rw [e1] at e2
  cases e2
  refine lv_icmp_eq (tgt := 845) hx hb dL_law_368 (by decide) (fun _ => ?_) (fun c9 => absurd rfl c9)
  refine lv_iinc (v := nI (i + 5)) (lv' := [(3, .int (nI (i + 5))), (0, .ref b), (1, .ref (adx 0 0)), (2, .ref (adm 0 0))]) hx hb dL_law_845 hl (k := 0) rfl (nI_add i 5) (by decide) rfl (fun ls hl => ?_)
  refine lv_goto (tgt := 18) hx hb dL_law_848 (by decide) ?_
  refine W.widen (k := 35 + (i + 5)) (n := 639 + 6 * (i + 5)) (by omega) (by omega) ?_
  exact kk9 adx adm n I1 O1 J2 H locs ls hjx hjm (ys_cut hY e1) hR2 hPx hDx hPm hDm (fun a x y h1 h2 => hdis a y x h2 h1) hS hl
set_option maxHeartbeats 4000000 in
set_option maxRecDepth 100000 in
theorem law_hoot {p : Program} {e : Env} {s : State} {m : MethodId} {below : List Frame} {meth : Method} {c : Code} (l : Launch) {b L : Nat} {xs : Nat → Int32} (hL : L ≤ 2560) (C0 : lw_At p s m meth c b L xs) (D : va_G) (kk : Nat → ClassId) (hK : va_K D vwCl (xT kk) s) (i : Nat) (hi5 : i + 5 ≤ L) (kk9 : ∀ (adx adm : Nat → Nat → Nat) (n : Nat) (I : sI) (O : sO) (J : sI) (H : Heap) (locs : List Loc) (ls : Array Slot), sj (xV n) adx → sj mV adm → yI n I O → mR n I O J → fw_P D vwCl (xw kk adx n I O) H → fw_D (fun q : Nat => s.heap.size ≤ q) (xw kk adx n I O) → fw_P D vwCl (mw kk adm J) H → fw_D (fun q : Nat => s.heap.size ≤ q) (mw kk adm J) → (∀ (a : Nat) (x y : va_E), xw kk adx n I O a = some x → mw kk adm J a = some y → False) → va_S (fun q : Nat => s.heap.size ≤ q) s.heap H locs → lv_has ls 4 [(3, .int (nI (i + 5))), (0, .ref b), (1, .ref (adx 0 0)), (2, .ref (adm 0 0))] → W p l e room_1 s m #[Value.ref b] below meth c H locs (35 + (i + 5)) (639 + 6 * (i + 5)) (lw_Z below #[Value.ref b] s) (F0 m 18 ls [])) : ∀ (adx adm : Nat → Nat → Nat) (n : Nat) (I : sI) (O : sO) (J : sI) (H : Heap) (locs : List Loc) (ls : Array Slot), sj (xV n) adx → sj mV adm → yI n I O → mR n I O J → fw_P D vwCl (xw kk adx n I O) H → fw_D (fun q : Nat => s.heap.size ≤ q) (xw kk adx n I O) → fw_P D vwCl (mw kk adm J) H → fw_D (fun q : Nat => s.heap.size ≤ q) (mw kk adm J) → (∀ (a : Nat) (x y : va_E), xw kk adx n I O a = some x → mw kk adm J a = some y → False) → va_S (fun q : Nat => s.heap.size ≤ q) s.heap H locs → lv_has ls 4 [(3, .int (nI i)), (0, .ref b), (1, .ref (adx 0 0)), (2, .ref (adm 0 0))] → W p l e room_1 s m #[Value.ref b] below meth c H locs (35 + i) (639 + 6 * i) (lw_Z below #[Value.ref b] s) (F0 m 373 ls []) := by
  intro adx adm n I O J H locs ls hjx hjm hY hR hPx hDx hPm hDm hdis hS hl
  obtain ⟨hx, hb, hr, hml, hown, hts, hX, hbl, hlocks, hgv⟩ := id C0
  have hown : s.vm.findClass RL = some m.cls := hown
  have hts := fun w h => hts w (wsL_law_in w h)
  have hA : ∀ q : Nat, s.heap.size ≤ q → (fun q : Nat => s.heap.size ≤ q) q := fun _ h => h
  have hbA : ¬ (fun q : Nat => s.heap.size ≤ q) b := Nat.not_le.mpr hbl
  refine lv_aload_n hx hb dL_law_373 rfl (lv_at hl 2 rfl) ?_
  refine lv_aload_n hx hb dL_law_374 rfl (lv_at hl 1 rfl) ?_
  refine lv_iload_n hx hb dL_law_375 rfl (lv_at hl 0 rfl) ?_
  refine lv_iconst (v := 1) hx hb dL_law_376 (by decide) ?_
  refine lv_iadd hx hb dL_law_377 ?_
  refine W.eq (g2 := F0 m 378 ls [.int (nI (i + 1)), .ref b, .ref (adx 0 0)]) (by rw [show (1 : Int32) = nI 1 from rfl, nI_add]) ?_
  refine va_sld hx hb hX hbl hbA hS (vp_in_nI (by omega) (by omega)) dL_law_378 ?_
  refine W.eq (g2 := F0 m 379 ls [.int (xs (i + 1)), .ref (adx 0 0)]) (by rw [nI_clamp (by omega)]) ?_
  refine lv_aload_n hx hb dL_law_379 rfl (lv_at hl 1 rfl) ?_
  refine lv_iload_n hx hb dL_law_380 rfl (lv_at hl 0 rfl) ?_
  refine lv_iconst (v := 2) hx hb dL_law_381 (by decide) ?_
  refine lv_iadd hx hb dL_law_382 ?_
  refine W.eq (g2 := F0 m 383 ls [.int (nI (i + 2)), .ref b, .int (xs (i + 1)), .ref (adx 0 0)]) (by rw [show (2 : Int32) = nI 2 from rfl, nI_add]) ?_
  refine va_sld hx hb hX hbl hbA hS (vp_in_nI (by omega) (by omega)) dL_law_383 ?_
  refine W.eq (g2 := F0 m 384 ls [.int (xs (i + 2)), .int (xs (i + 1)), .ref (adx 0 0)]) (by rw [nI_clamp (by omega)]) ?_
  refine fw_calli2 (va_runV (As := [.int (xs (i + 1)), .int (xs (i + 2))]) (rest := []) ⟨hx, hb, hml, hown, hts⟩ (c_X4_hoot l D kk adx n I O hjx hY (xs (i + 1)) (xs (i + 2)) _) (cwV 2 hts gL_law_X4_hoot rfl rfl rfl (by decide +kernel) ⟨Nat.le_of_ble_eq_true rfl, Nat.le_of_ble_eq_true rfl⟩) (fw_preV hK hPx (ci := 4) rfl (x_at0 hjx)) rfl rfl hl.1 rfl (lv_room (Nat.le_of_ble_eq_true rfl)) dL_law_384 ⟨by show 35 + i + 0 ≤ 639303; omega, by show 639 + 6 * i + 0 ≤ 7184338; omega⟩) hDx hS hA hPm hdis (fun r w1 H locs hq hPx hDx hS hPm hdis => ?_)
  obtain ⟨I1, O1, e1, rfl⟩ := hq
  refine lv_aload_n hx hb dL_law_387 rfl (lv_at hl 3 rfl) ?_
  refine lv_aload_n hx hb dL_law_388 rfl (lv_at hl 1 rfl) ?_
  refine lv_iload_n hx hb dL_law_389 rfl (lv_at hl 0 rfl) ?_
  refine lv_iconst (v := 1) hx hb dL_law_390 (by decide) ?_
  refine lv_iadd hx hb dL_law_391 ?_
  refine W.eq (g2 := F0 m 392 ls [.int (nI (i + 1)), .ref b, .ref (adm 0 0), .int r]) (by rw [show (1 : Int32) = nI 1 from rfl, nI_add]) ?_
  refine va_sld hx hb hX hbl hbA hS (vp_in_nI (by omega) (by omega)) dL_law_392 ?_
  refine W.eq (g2 := F0 m 393 ls [.int (xs (i + 1)), .ref (adm 0 0), .int r]) (by rw [nI_clamp (by omega)]) ?_
  refine lv_aload_n hx hb dL_law_393 rfl (lv_at hl 1 rfl) ?_
  refine lv_iload_n hx hb dL_law_394 rfl (lv_at hl 0 rfl) ?_
  refine lv_iconst (v := 2) hx hb dL_law_395 (by decide) ?_
  refine lv_iadd hx hb dL_law_396 ?_
  refine W.eq (g2 := F0 m 397 ls [.int (nI (i + 2)), .ref b, .int (xs (i + 1)), .ref (adm 0 0), .int r]) (by rw [show (2 : Int32) = nI 2 from rfl, nI_add]) ?_
  refine va_sld hx hb hX hbl hbA hS (vp_in_nI (by omega) (by omega)) dL_law_397 ?_
  refine W.eq (g2 := F0 m 398 ls [.int (xs (i + 2)), .int (xs (i + 1)), .ref (adm 0 0), .int r]) (by rw [nI_clamp (by omega)]) ?_
  refine fw_calli2 (va_runV (As := [.int (xs (i + 1)), .int (xs (i + 2))]) (rest := [.int r]) ⟨hx, hb, hml, hown, hts⟩ (c_X5_hoot l D kk adm n I O J hjm hY hR (xs (i + 1)) (xs (i + 2)) _) (cwV 2 hts gL_law_X5_hoot rfl rfl rfl (by decide +kernel) ⟨Nat.le_of_ble_eq_true rfl, Nat.le_of_ble_eq_true rfl⟩) (fw_preV hK hPm (ci := 5) rfl (m_at0 hjm)) rfl rfl hl.1 rfl (lv_room (Nat.le_of_ble_eq_true rfl)) dL_law_398 ⟨by show 35 + i + 0 + 0 ≤ 639303; omega, by show 639 + 6 * i + 0 + 0 ≤ 7184338; omega⟩) hDm hS hA hPx (fun a x y h1 h2 => hdis a y x h2 h1) (fun r2 w1 H locs hq hPm hDm hS hPx hdis => ?_)
  obtain ⟨I2, O2, J2, e2, hR2, rfl⟩ := hq
  rw [e1] at e2
  cases e2
  refine lv_icmp_eq (tgt := 845) hx hb dL_law_401 (by decide) (fun _ => ?_) (fun c9 => absurd rfl c9)
  refine lv_iinc (v := nI (i + 5)) (lv' := [(3, .int (nI (i + 5))), (0, .ref b), (1, .ref (adx 0 0)), (2, .ref (adm 0 0))]) hx hb dL_law_845 hl (k := 0) rfl (nI_add i 5) (by decide) rfl (fun ls hl => ?_)
  refine lv_goto (tgt := 18) hx hb dL_law_848 (by decide) ?_
  refine W.widen (k := 35 + (i + 5)) (n := 639 + 6 * (i + 5)) (by omega) (by omega) ?_
  exact kk9 adx adm n I1 O1 J2 H locs ls hjx hjm (ys_hoot hY e1) hR2 hPx hDx hPm hDm (fun a x y h1 h2 => hdis a y x h2 h1) hS hl
set_option maxHeartbeats 4000000 in
set_option maxRecDepth 100000 in
theorem law_pull {p : Program} {e : Env} {s : State} {m : MethodId} {below : List Frame} {meth : Method} {c : Code} (l : Launch) {b L : Nat} {xs : Nat → Int32} (hL : L ≤ 2560) (C0 : lw_At p s m meth c b L xs) (D : va_G) (kk : Nat → ClassId) (hK : va_K D vwCl (xT kk) s) (i : Nat) (hi5 : i + 5 ≤ L) (kk9 : ∀ (adx adm : Nat → Nat → Nat) (n : Nat) (I : sI) (O : sO) (J : sI) (H : Heap) (locs : List Loc) (ls : Array Slot), sj (xV n) adx → sj mV adm → yI n I O → mR n I O J → fw_P D vwCl (xw kk adx n I O) H → fw_D (fun q : Nat => s.heap.size ≤ q) (xw kk adx n I O) → fw_P D vwCl (mw kk adm J) H → fw_D (fun q : Nat => s.heap.size ≤ q) (mw kk adm J) → (∀ (a : Nat) (x y : va_E), xw kk adx n I O a = some x → mw kk adm J a = some y → False) → va_S (fun q : Nat => s.heap.size ≤ q) s.heap H locs → lv_has ls 4 [(3, .int (nI (i + 5))), (0, .ref b), (1, .ref (adx 0 0)), (2, .ref (adm 0 0))] → W p l e room_1 s m #[Value.ref b] below meth c H locs (35 + (i + 5)) (639 + 6 * (i + 5)) (lw_Z below #[Value.ref b] s) (F0 m 18 ls [])) : ∀ (adx adm : Nat → Nat → Nat) (n : Nat) (I : sI) (O : sO) (J : sI) (H : Heap) (locs : List Loc) (ls : Array Slot), sj (xV n) adx → sj mV adm → yI n I O → mR n I O J → fw_P D vwCl (xw kk adx n I O) H → fw_D (fun q : Nat => s.heap.size ≤ q) (xw kk adx n I O) → fw_P D vwCl (mw kk adm J) H → fw_D (fun q : Nat => s.heap.size ≤ q) (mw kk adm J) → (∀ (a : Nat) (x y : va_E), xw kk adx n I O a = some x → mw kk adm J a = some y → False) → va_S (fun q : Nat => s.heap.size ≤ q) s.heap H locs → lv_has ls 4 [(3, .int (nI i)), (0, .ref b), (1, .ref (adx 0 0)), (2, .ref (adm 0 0))] → W p l e room_1 s m #[Value.ref b] below meth c H locs (35 + i) (639 + 6 * i) (lw_Z below #[Value.ref b] s) (F0 m 406 ls []) := by
  intro adx adm n I O J H locs ls hjx hjm hY hR hPx hDx hPm hDm hdis hS hl
  obtain ⟨hx, hb, hr, hml, hown, hts, hX, hbl, hlocks, hgv⟩ := id C0
  have hown : s.vm.findClass RL = some m.cls := hown
  have hts := fun w h => hts w (wsL_law_in w h)
  have hA : ∀ q : Nat, s.heap.size ≤ q → (fun q : Nat => s.heap.size ≤ q) q := fun _ h => h
  have hbA : ¬ (fun q : Nat => s.heap.size ≤ q) b := Nat.not_le.mpr hbl
  refine lv_aload_n hx hb dL_law_406 rfl (lv_at hl 2 rfl) ?_
  refine lv_aload_n hx hb dL_law_407 rfl (lv_at hl 1 rfl) ?_
  refine lv_iload_n hx hb dL_law_408 rfl (lv_at hl 0 rfl) ?_
  refine lv_iconst (v := 1) hx hb dL_law_409 (by decide) ?_
  refine lv_iadd hx hb dL_law_410 ?_
  refine W.eq (g2 := F0 m 411 ls [.int (nI (i + 1)), .ref b, .ref (adx 0 0)]) (by rw [show (1 : Int32) = nI 1 from rfl, nI_add]) ?_
  refine va_sld hx hb hX hbl hbA hS (vp_in_nI (by omega) (by omega)) dL_law_411 ?_
  refine W.eq (g2 := F0 m 412 ls [.int (xs (i + 1)), .ref (adx 0 0)]) (by rw [nI_clamp (by omega)]) ?_
  refine lv_aload_n hx hb dL_law_412 rfl (lv_at hl 1 rfl) ?_
  refine lv_iload_n hx hb dL_law_413 rfl (lv_at hl 0 rfl) ?_
  refine lv_iconst (v := 2) hx hb dL_law_414 (by decide) ?_
  refine lv_iadd hx hb dL_law_415 ?_
  refine W.eq (g2 := F0 m 416 ls [.int (nI (i + 2)), .ref b, .int (xs (i + 1)), .ref (adx 0 0)]) (by rw [show (2 : Int32) = nI 2 from rfl, nI_add]) ?_
  refine va_sld hx hb hX hbl hbA hS (vp_in_nI (by omega) (by omega)) dL_law_416 ?_
  refine W.eq (g2 := F0 m 417 ls [.int (xs (i + 2)), .int (xs (i + 1)), .ref (adx 0 0)]) (by rw [nI_clamp (by omega)]) ?_
  refine fw_calli2 (va_runV (As := [.int (xs (i + 1)), .int (xs (i + 2))]) (rest := []) ⟨hx, hb, hml, hown, hts⟩ (c_X4_pull l D kk adx n I O hjx hY (xs (i + 1)) (xs (i + 2)) _) (cwV 2 hts gL_law_X4_pull rfl rfl rfl (by decide +kernel) ⟨Nat.le_of_ble_eq_true rfl, Nat.le_of_ble_eq_true rfl⟩) (fw_preV hK hPx (ci := 4) rfl (x_at0 hjx)) rfl rfl hl.1 rfl (lv_room (Nat.le_of_ble_eq_true rfl)) dL_law_417 ⟨by show 35 + i + 0 ≤ 639303; omega, by show 639 + 6 * i + 0 ≤ 7184338; omega⟩) hDx hS hA hPm hdis (fun r w1 H locs hq hPx hDx hS hPm hdis => ?_)
  obtain ⟨I1, O1, e1, rfl⟩ := hq
  refine lv_aload_n hx hb dL_law_420 rfl (lv_at hl 3 rfl) ?_
  refine lv_aload_n hx hb dL_law_421 rfl (lv_at hl 1 rfl) ?_
  refine lv_iload_n hx hb dL_law_422 rfl (lv_at hl 0 rfl) ?_
  refine lv_iconst (v := 1) hx hb dL_law_423 (by decide) ?_
  refine lv_iadd hx hb dL_law_424 ?_
  refine W.eq (g2 := F0 m 425 ls [.int (nI (i + 1)), .ref b, .ref (adm 0 0), .int r]) (by rw [show (1 : Int32) = nI 1 from rfl, nI_add]) ?_
  refine va_sld hx hb hX hbl hbA hS (vp_in_nI (by omega) (by omega)) dL_law_425 ?_
  refine W.eq (g2 := F0 m 426 ls [.int (xs (i + 1)), .ref (adm 0 0), .int r]) (by rw [nI_clamp (by omega)]) ?_
  refine lv_aload_n hx hb dL_law_426 rfl (lv_at hl 1 rfl) ?_
  refine lv_iload_n hx hb dL_law_427 rfl (lv_at hl 0 rfl) ?_
  refine lv_iconst (v := 2) hx hb dL_law_428 (by decide) ?_
  refine lv_iadd hx hb dL_law_429 ?_
  refine W.eq (g2 := F0 m 430 ls [.int (nI (i + 2)), .ref b, .int (xs (i + 1)), .ref (adm 0 0), .int r]) (by rw [show (2 : Int32) = nI 2 from rfl, nI_add]) ?_
  refine va_sld hx hb hX hbl hbA hS (vp_in_nI (by omega) (by omega)) dL_law_430 ?_
  refine W.eq (g2 := F0 m 431 ls [.int (xs (i + 2)), .int (xs (i + 1)), .ref (adm 0 0), .int r]) (by rw [nI_clamp (by omega)]) ?_
  refine fw_calli2 (va_runV (As := [.int (xs (i + 1)), .int (xs (i + 2))]) (rest := [.int r]) ⟨hx, hb, hml, hown, hts⟩ (c_X5_pull l D kk adm n I O J hjm hY hR (xs (i + 1)) (xs (i + 2)) _) (cwV 2 hts gL_law_X5_pull rfl rfl rfl (by decide +kernel) ⟨Nat.le_of_ble_eq_true rfl, Nat.le_of_ble_eq_true rfl⟩) (fw_preV hK hPm (ci := 5) rfl (m_at0 hjm)) rfl rfl hl.1 rfl (lv_room (Nat.le_of_ble_eq_true rfl)) dL_law_431 ⟨by show 35 + i + 0 + 0 ≤ 639303; omega, by show 639 + 6 * i + 0 + 0 ≤ 7184338; omega⟩) hDm hS hA hPx (fun a x y h1 h2 => hdis a y x h2 h1) (fun r2 w1 H locs hq hPm hDm hS hPx hdis => ?_)
  obtain ⟨I2, O2, J2, e2, hR2, rfl⟩ := hq
  rw [e1] at e2
  cases e2
  refine lv_icmp_eq (tgt := 845) hx hb dL_law_434 (by decide) (fun _ => ?_) (fun c9 => absurd rfl c9)
  refine lv_iinc (v := nI (i + 5)) (lv' := [(3, .int (nI (i + 5))), (0, .ref b), (1, .ref (adx 0 0)), (2, .ref (adm 0 0))]) hx hb dL_law_845 hl (k := 0) rfl (nI_add i 5) (by decide) rfl (fun ls hl => ?_)
  refine lv_goto (tgt := 18) hx hb dL_law_848 (by decide) ?_
  refine W.widen (k := 35 + (i + 5)) (n := 639 + 6 * (i + 5)) (by omega) (by omega) ?_
  exact kk9 adx adm n I1 O1 J2 H locs ls hjx hjm (ys_pull hY e1) hR2 hPx hDx hPm hDm (fun a x y h1 h2 => hdis a y x h2 h1) hS hl
set_option maxHeartbeats 4000000 in
set_option maxRecDepth 100000 in
theorem law_loadAs {p : Program} {e : Env} {s : State} {m : MethodId} {below : List Frame} {meth : Method} {c : Code} (l : Launch) {b L : Nat} {xs : Nat → Int32} (hL : L ≤ 2560) (C0 : lw_At p s m meth c b L xs) (D : va_G) (kk : Nat → ClassId) (hK : va_K D vwCl (xT kk) s) (i : Nat) (hi5 : i + 5 ≤ L) (kk9 : ∀ (adx adm : Nat → Nat → Nat) (n : Nat) (I : sI) (O : sO) (J : sI) (H : Heap) (locs : List Loc) (ls : Array Slot), sj (xV n) adx → sj mV adm → yI n I O → mR n I O J → fw_P D vwCl (xw kk adx n I O) H → fw_D (fun q : Nat => s.heap.size ≤ q) (xw kk adx n I O) → fw_P D vwCl (mw kk adm J) H → fw_D (fun q : Nat => s.heap.size ≤ q) (mw kk adm J) → (∀ (a : Nat) (x y : va_E), xw kk adx n I O a = some x → mw kk adm J a = some y → False) → va_S (fun q : Nat => s.heap.size ≤ q) s.heap H locs → lv_has ls 4 [(3, .int (nI (i + 5))), (0, .ref b), (1, .ref (adx 0 0)), (2, .ref (adm 0 0))] → W p l e room_1 s m #[Value.ref b] below meth c H locs (35 + (i + 5)) (639 + 6 * (i + 5)) (lw_Z below #[Value.ref b] s) (F0 m 18 ls [])) : ∀ (adx adm : Nat → Nat → Nat) (n : Nat) (I : sI) (O : sO) (J : sI) (H : Heap) (locs : List Loc) (ls : Array Slot), sj (xV n) adx → sj mV adm → yI n I O → mR n I O J → fw_P D vwCl (xw kk adx n I O) H → fw_D (fun q : Nat => s.heap.size ≤ q) (xw kk adx n I O) → fw_P D vwCl (mw kk adm J) H → fw_D (fun q : Nat => s.heap.size ≤ q) (mw kk adm J) → (∀ (a : Nat) (x y : va_E), xw kk adx n I O a = some x → mw kk adm J a = some y → False) → va_S (fun q : Nat => s.heap.size ≤ q) s.heap H locs → lv_has ls 4 [(3, .int (nI i)), (0, .ref b), (1, .ref (adx 0 0)), (2, .ref (adm 0 0))] → W p l e room_1 s m #[Value.ref b] below meth c H locs (35 + i) (639 + 6 * i) (lw_Z below #[Value.ref b] s) (F0 m 439 ls []) := by
  intro adx adm n I O J H locs ls hjx hjm hY hR hPx hDx hPm hDm hdis hS hl
  obtain ⟨hx, hb, hr, hml, hown, hts, hX, hbl, hlocks, hgv⟩ := id C0
  have hown : s.vm.findClass RL = some m.cls := hown
  have hts := fun w h => hts w (wsL_law_in w h)
  have hA : ∀ q : Nat, s.heap.size ≤ q → (fun q : Nat => s.heap.size ≤ q) q := fun _ h => h
  have hbA : ¬ (fun q : Nat => s.heap.size ≤ q) b := Nat.not_le.mpr hbl
  refine lv_aload_n hx hb dL_law_439 rfl (lv_at hl 2 rfl) ?_
  refine lv_aload_n hx hb dL_law_440 rfl (lv_at hl 1 rfl) ?_
  refine lv_iload_n hx hb dL_law_441 rfl (lv_at hl 0 rfl) ?_
  refine lv_iconst (v := 1) hx hb dL_law_442 (by decide) ?_
  refine lv_iadd hx hb dL_law_443 ?_
  refine W.eq (g2 := F0 m 444 ls [.int (nI (i + 1)), .ref b, .ref (adx 0 0)]) (by rw [show (1 : Int32) = nI 1 from rfl, nI_add]) ?_
  refine va_sld hx hb hX hbl hbA hS (vp_in_nI (by omega) (by omega)) dL_law_444 ?_
  refine W.eq (g2 := F0 m 445 ls [.int (xs (i + 1)), .ref (adx 0 0)]) (by rw [nI_clamp (by omega)]) ?_
  refine lv_aload_n hx hb dL_law_445 rfl (lv_at hl 1 rfl) ?_
  refine lv_iload_n hx hb dL_law_446 rfl (lv_at hl 0 rfl) ?_
  refine lv_iconst (v := 2) hx hb dL_law_447 (by decide) ?_
  refine lv_iadd hx hb dL_law_448 ?_
  refine W.eq (g2 := F0 m 449 ls [.int (nI (i + 2)), .ref b, .int (xs (i + 1)), .ref (adx 0 0)]) (by rw [show (2 : Int32) = nI 2 from rfl, nI_add]) ?_
  refine va_sld hx hb hX hbl hbA hS (vp_in_nI (by omega) (by omega)) dL_law_449 ?_
  refine W.eq (g2 := F0 m 450 ls [.int (xs (i + 2)), .int (xs (i + 1)), .ref (adx 0 0)]) (by rw [nI_clamp (by omega)]) ?_
  refine lv_aload_n hx hb dL_law_450 rfl (lv_at hl 1 rfl) ?_
  refine lv_iload_n hx hb dL_law_451 rfl (lv_at hl 0 rfl) ?_
  refine lv_iconst (v := 3) hx hb dL_law_452 (by decide) ?_
  refine lv_iadd hx hb dL_law_453 ?_
  refine W.eq (g2 := F0 m 454 ls [.int (nI (i + 3)), .ref b, .int (xs (i + 2)), .int (xs (i + 1)), .ref (adx 0 0)]) (by rw [show (3 : Int32) = nI 3 from rfl, nI_add]) ?_
  refine va_sld hx hb hX hbl hbA hS (vp_in_nI (by omega) (by omega)) dL_law_454 ?_
  refine W.eq (g2 := F0 m 455 ls [.int (xs (i + 3)), .int (xs (i + 2)), .int (xs (i + 1)), .ref (adx 0 0)]) (by rw [nI_clamp (by omega)]) ?_
  refine fw_calli2 (va_runV (As := [.int (xs (i + 1)), .int (xs (i + 2)), .int (xs (i + 3))]) (rest := []) ⟨hx, hb, hml, hown, hts⟩ (c_X4_loadAs l D kk adx n I O hjx hY (xs (i + 1)) (xs (i + 2)) (xs (i + 3)) _) (cwV 3 hts gL_law_X4_loadAs rfl rfl rfl (by decide +kernel) ⟨Nat.le_of_ble_eq_true rfl, Nat.le_of_ble_eq_true rfl⟩) (fw_preV hK hPx (ci := 4) rfl (x_at0 hjx)) rfl rfl hl.1 rfl (lv_room (Nat.le_of_ble_eq_true rfl)) dL_law_455 ⟨by show 35 + i + 0 ≤ 639303; omega, by show 639 + 6 * i + 0 ≤ 7184338; omega⟩) hDx hS hA hPm hdis (fun r w1 H locs hq hPx hDx hS hPm hdis => ?_)
  obtain ⟨I1, O1, e1, rfl⟩ := hq
  refine lv_aload_n hx hb dL_law_458 rfl (lv_at hl 3 rfl) ?_
  refine lv_aload_n hx hb dL_law_459 rfl (lv_at hl 1 rfl) ?_
  refine lv_iload_n hx hb dL_law_460 rfl (lv_at hl 0 rfl) ?_
  refine lv_iconst (v := 1) hx hb dL_law_461 (by decide) ?_
  refine lv_iadd hx hb dL_law_462 ?_
  refine W.eq (g2 := F0 m 463 ls [.int (nI (i + 1)), .ref b, .ref (adm 0 0), .int r]) (by rw [show (1 : Int32) = nI 1 from rfl, nI_add]) ?_
  refine va_sld hx hb hX hbl hbA hS (vp_in_nI (by omega) (by omega)) dL_law_463 ?_
  refine W.eq (g2 := F0 m 464 ls [.int (xs (i + 1)), .ref (adm 0 0), .int r]) (by rw [nI_clamp (by omega)]) ?_
  refine lv_aload_n hx hb dL_law_464 rfl (lv_at hl 1 rfl) ?_
  refine lv_iload_n hx hb dL_law_465 rfl (lv_at hl 0 rfl) ?_
  refine lv_iconst (v := 2) hx hb dL_law_466 (by decide) ?_
  refine lv_iadd hx hb dL_law_467 ?_
  refine W.eq (g2 := F0 m 468 ls [.int (nI (i + 2)), .ref b, .int (xs (i + 1)), .ref (adm 0 0), .int r]) (by rw [show (2 : Int32) = nI 2 from rfl, nI_add]) ?_
  refine va_sld hx hb hX hbl hbA hS (vp_in_nI (by omega) (by omega)) dL_law_468 ?_
  refine W.eq (g2 := F0 m 469 ls [.int (xs (i + 2)), .int (xs (i + 1)), .ref (adm 0 0), .int r]) (by rw [nI_clamp (by omega)]) ?_
  refine lv_aload_n hx hb dL_law_469 rfl (lv_at hl 1 rfl) ?_
  refine lv_iload_n hx hb dL_law_470 rfl (lv_at hl 0 rfl) ?_
  refine lv_iconst (v := 3) hx hb dL_law_471 (by decide) ?_
  refine lv_iadd hx hb dL_law_472 ?_
  refine W.eq (g2 := F0 m 473 ls [.int (nI (i + 3)), .ref b, .int (xs (i + 2)), .int (xs (i + 1)), .ref (adm 0 0), .int r]) (by rw [show (3 : Int32) = nI 3 from rfl, nI_add]) ?_
  refine va_sld hx hb hX hbl hbA hS (vp_in_nI (by omega) (by omega)) dL_law_473 ?_
  refine W.eq (g2 := F0 m 474 ls [.int (xs (i + 3)), .int (xs (i + 2)), .int (xs (i + 1)), .ref (adm 0 0), .int r]) (by rw [nI_clamp (by omega)]) ?_
  refine fw_calli2 (va_runV (As := [.int (xs (i + 1)), .int (xs (i + 2)), .int (xs (i + 3))]) (rest := [.int r]) ⟨hx, hb, hml, hown, hts⟩ (c_X5_loadAs l D kk adm n I O J hjm hY hR (xs (i + 1)) (xs (i + 2)) (xs (i + 3)) _) (cwV 3 hts gL_law_X5_loadAs rfl rfl rfl (by decide +kernel) ⟨Nat.le_of_ble_eq_true rfl, Nat.le_of_ble_eq_true rfl⟩) (fw_preV hK hPm (ci := 5) rfl (m_at0 hjm)) rfl rfl hl.1 rfl (lv_room (Nat.le_of_ble_eq_true rfl)) dL_law_474 ⟨by show 35 + i + 0 + 0 ≤ 639303; omega, by show 639 + 6 * i + 0 + 0 ≤ 7184338; omega⟩) hDm hS hA hPx (fun a x y h1 h2 => hdis a y x h2 h1) (fun r2 w1 H locs hq hPm hDm hS hPx hdis => ?_)
  obtain ⟨I2, O2, J2, e2, hR2, rfl⟩ := hq
  rw [e1] at e2
  cases e2
  refine lv_icmp_eq (tgt := 845) hx hb dL_law_477 (by decide) (fun _ => ?_) (fun c9 => absurd rfl c9)
  refine lv_iinc (v := nI (i + 5)) (lv' := [(3, .int (nI (i + 5))), (0, .ref b), (1, .ref (adx 0 0)), (2, .ref (adm 0 0))]) hx hb dL_law_845 hl (k := 0) rfl (nI_add i 5) (by decide) rfl (fun ls hl => ?_)
  refine lv_goto (tgt := 18) hx hb dL_law_848 (by decide) ?_
  refine W.widen (k := 35 + (i + 5)) (n := 639 + 6 * (i + 5)) (by omega) (by omega) ?_
  exact kk9 adx adm n I1 O1 J2 H locs ls hjx hjm (ys_loadAs hY e1) hR2 hPx hDx hPm hDm (fun a x y h1 h2 => hdis a y x h2 h1) hS hl
set_option maxHeartbeats 4000000 in
set_option maxRecDepth 100000 in
theorem law_rake {p : Program} {e : Env} {s : State} {m : MethodId} {below : List Frame} {meth : Method} {c : Code} (l : Launch) {b L : Nat} {xs : Nat → Int32} (hL : L ≤ 2560) (C0 : lw_At p s m meth c b L xs) (D : va_G) (kk : Nat → ClassId) (hK : va_K D vwCl (xT kk) s) (i : Nat) (hi5 : i + 5 ≤ L) (kk9 : ∀ (adx adm : Nat → Nat → Nat) (n : Nat) (I : sI) (O : sO) (J : sI) (H : Heap) (locs : List Loc) (ls : Array Slot), sj (xV n) adx → sj mV adm → yI n I O → mR n I O J → fw_P D vwCl (xw kk adx n I O) H → fw_D (fun q : Nat => s.heap.size ≤ q) (xw kk adx n I O) → fw_P D vwCl (mw kk adm J) H → fw_D (fun q : Nat => s.heap.size ≤ q) (mw kk adm J) → (∀ (a : Nat) (x y : va_E), xw kk adx n I O a = some x → mw kk adm J a = some y → False) → va_S (fun q : Nat => s.heap.size ≤ q) s.heap H locs → lv_has ls 4 [(3, .int (nI (i + 5))), (0, .ref b), (1, .ref (adx 0 0)), (2, .ref (adm 0 0))] → W p l e room_1 s m #[Value.ref b] below meth c H locs (35 + (i + 5)) (639 + 6 * (i + 5)) (lw_Z below #[Value.ref b] s) (F0 m 18 ls [])) : ∀ (adx adm : Nat → Nat → Nat) (n : Nat) (I : sI) (O : sO) (J : sI) (H : Heap) (locs : List Loc) (ls : Array Slot), sj (xV n) adx → sj mV adm → yI n I O → mR n I O J → fw_P D vwCl (xw kk adx n I O) H → fw_D (fun q : Nat => s.heap.size ≤ q) (xw kk adx n I O) → fw_P D vwCl (mw kk adm J) H → fw_D (fun q : Nat => s.heap.size ≤ q) (mw kk adm J) → (∀ (a : Nat) (x y : va_E), xw kk adx n I O a = some x → mw kk adm J a = some y → False) → va_S (fun q : Nat => s.heap.size ≤ q) s.heap H locs → lv_has ls 4 [(3, .int (nI i)), (0, .ref b), (1, .ref (adx 0 0)), (2, .ref (adm 0 0))] → W p l e room_1 s m #[Value.ref b] below meth c H locs (35 + i) (639 + 6 * i) (lw_Z below #[Value.ref b] s) (F0 m 482 ls []) := by
  intro adx adm n I O J H locs ls hjx hjm hY hR hPx hDx hPm hDm hdis hS hl
  obtain ⟨hx, hb, hr, hml, hown, hts, hX, hbl, hlocks, hgv⟩ := id C0
  have hown : s.vm.findClass RL = some m.cls := hown
  have hts := fun w h => hts w (wsL_law_in w h)
  have hA : ∀ q : Nat, s.heap.size ≤ q → (fun q : Nat => s.heap.size ≤ q) q := fun _ h => h
  have hbA : ¬ (fun q : Nat => s.heap.size ≤ q) b := Nat.not_le.mpr hbl
  refine lv_aload_n hx hb dL_law_482 rfl (lv_at hl 2 rfl) ?_
  refine lv_aload_n hx hb dL_law_483 rfl (lv_at hl 1 rfl) ?_
  refine lv_iload_n hx hb dL_law_484 rfl (lv_at hl 0 rfl) ?_
  refine lv_iconst (v := 1) hx hb dL_law_485 (by decide) ?_
  refine lv_iadd hx hb dL_law_486 ?_
  refine W.eq (g2 := F0 m 487 ls [.int (nI (i + 1)), .ref b, .ref (adx 0 0)]) (by rw [show (1 : Int32) = nI 1 from rfl, nI_add]) ?_
  refine va_sld hx hb hX hbl hbA hS (vp_in_nI (by omega) (by omega)) dL_law_487 ?_
  refine W.eq (g2 := F0 m 488 ls [.int (xs (i + 1)), .ref (adx 0 0)]) (by rw [nI_clamp (by omega)]) ?_
  refine lv_aload_n hx hb dL_law_488 rfl (lv_at hl 1 rfl) ?_
  refine lv_iload_n hx hb dL_law_489 rfl (lv_at hl 0 rfl) ?_
  refine lv_iconst (v := 2) hx hb dL_law_490 (by decide) ?_
  refine lv_iadd hx hb dL_law_491 ?_
  refine W.eq (g2 := F0 m 492 ls [.int (nI (i + 2)), .ref b, .int (xs (i + 1)), .ref (adx 0 0)]) (by rw [show (2 : Int32) = nI 2 from rfl, nI_add]) ?_
  refine va_sld hx hb hX hbl hbA hS (vp_in_nI (by omega) (by omega)) dL_law_492 ?_
  refine W.eq (g2 := F0 m 493 ls [.int (xs (i + 2)), .int (xs (i + 1)), .ref (adx 0 0)]) (by rw [nI_clamp (by omega)]) ?_
  refine lv_aload_n hx hb dL_law_493 rfl (lv_at hl 1 rfl) ?_
  refine lv_iload_n hx hb dL_law_494 rfl (lv_at hl 0 rfl) ?_
  refine lv_iconst (v := 3) hx hb dL_law_495 (by decide) ?_
  refine lv_iadd hx hb dL_law_496 ?_
  refine W.eq (g2 := F0 m 497 ls [.int (nI (i + 3)), .ref b, .int (xs (i + 2)), .int (xs (i + 1)), .ref (adx 0 0)]) (by rw [show (3 : Int32) = nI 3 from rfl, nI_add]) ?_
  refine va_sld hx hb hX hbl hbA hS (vp_in_nI (by omega) (by omega)) dL_law_497 ?_
  refine W.eq (g2 := F0 m 498 ls [.int (xs (i + 3)), .int (xs (i + 2)), .int (xs (i + 1)), .ref (adx 0 0)]) (by rw [nI_clamp (by omega)]) ?_
  refine fw_calli2 (va_runV (As := [.int (xs (i + 1)), .int (xs (i + 2)), .int (xs (i + 3))]) (rest := []) ⟨hx, hb, hml, hown, hts⟩ (c_X4_rake l D kk adx n I O hjx hY (xs (i + 1)) (xs (i + 2)) (xs (i + 3)) _) (cwV 3 hts gL_law_X4_rake rfl rfl rfl (by decide +kernel) ⟨Nat.le_of_ble_eq_true rfl, Nat.le_of_ble_eq_true rfl⟩) (fw_preV hK hPx (ci := 4) rfl (x_at0 hjx)) rfl rfl hl.1 rfl (lv_room (Nat.le_of_ble_eq_true rfl)) dL_law_498 ⟨by show 35 + i + 0 ≤ 639303; omega, by show 639 + 6 * i + 0 ≤ 7184338; omega⟩) hDx hS hA hPm hdis (fun r w1 H locs hq hPx hDx hS hPm hdis => ?_)
  obtain ⟨I1, O1, e1, rfl⟩ := hq
  refine lv_aload_n hx hb dL_law_501 rfl (lv_at hl 3 rfl) ?_
  refine lv_aload_n hx hb dL_law_502 rfl (lv_at hl 1 rfl) ?_
  refine lv_iload_n hx hb dL_law_503 rfl (lv_at hl 0 rfl) ?_
  refine lv_iconst (v := 1) hx hb dL_law_504 (by decide) ?_
  refine lv_iadd hx hb dL_law_505 ?_
  refine W.eq (g2 := F0 m 506 ls [.int (nI (i + 1)), .ref b, .ref (adm 0 0), .int r]) (by rw [show (1 : Int32) = nI 1 from rfl, nI_add]) ?_
  refine va_sld hx hb hX hbl hbA hS (vp_in_nI (by omega) (by omega)) dL_law_506 ?_
  refine W.eq (g2 := F0 m 507 ls [.int (xs (i + 1)), .ref (adm 0 0), .int r]) (by rw [nI_clamp (by omega)]) ?_
  refine lv_aload_n hx hb dL_law_507 rfl (lv_at hl 1 rfl) ?_
  refine lv_iload_n hx hb dL_law_508 rfl (lv_at hl 0 rfl) ?_
  refine lv_iconst (v := 2) hx hb dL_law_509 (by decide) ?_
  refine lv_iadd hx hb dL_law_510 ?_
  refine W.eq (g2 := F0 m 511 ls [.int (nI (i + 2)), .ref b, .int (xs (i + 1)), .ref (adm 0 0), .int r]) (by rw [show (2 : Int32) = nI 2 from rfl, nI_add]) ?_
  refine va_sld hx hb hX hbl hbA hS (vp_in_nI (by omega) (by omega)) dL_law_511 ?_
  refine W.eq (g2 := F0 m 512 ls [.int (xs (i + 2)), .int (xs (i + 1)), .ref (adm 0 0), .int r]) (by rw [nI_clamp (by omega)]) ?_
  refine lv_aload_n hx hb dL_law_512 rfl (lv_at hl 1 rfl) ?_
  refine lv_iload_n hx hb dL_law_513 rfl (lv_at hl 0 rfl) ?_
  refine lv_iconst (v := 3) hx hb dL_law_514 (by decide) ?_
  refine lv_iadd hx hb dL_law_515 ?_
  refine W.eq (g2 := F0 m 516 ls [.int (nI (i + 3)), .ref b, .int (xs (i + 2)), .int (xs (i + 1)), .ref (adm 0 0), .int r]) (by rw [show (3 : Int32) = nI 3 from rfl, nI_add]) ?_
  refine va_sld hx hb hX hbl hbA hS (vp_in_nI (by omega) (by omega)) dL_law_516 ?_
  refine W.eq (g2 := F0 m 517 ls [.int (xs (i + 3)), .int (xs (i + 2)), .int (xs (i + 1)), .ref (adm 0 0), .int r]) (by rw [nI_clamp (by omega)]) ?_
  refine fw_calli2 (va_runV (As := [.int (xs (i + 1)), .int (xs (i + 2)), .int (xs (i + 3))]) (rest := [.int r]) ⟨hx, hb, hml, hown, hts⟩ (c_X5_rake l D kk adm n I O J hjm hY hR (xs (i + 1)) (xs (i + 2)) (xs (i + 3)) _) (cwV 3 hts gL_law_X5_rake rfl rfl rfl (by decide +kernel) ⟨Nat.le_of_ble_eq_true rfl, Nat.le_of_ble_eq_true rfl⟩) (fw_preV hK hPm (ci := 5) rfl (m_at0 hjm)) rfl rfl hl.1 rfl (lv_room (Nat.le_of_ble_eq_true rfl)) dL_law_517 ⟨by show 35 + i + 0 + 0 ≤ 639303; omega, by show 639 + 6 * i + 0 + 0 ≤ 7184338; omega⟩) hDm hS hA hPx (fun a x y h1 h2 => hdis a y x h2 h1) (fun r2 w1 H locs hq hPm hDm hS hPx hdis => ?_)
  obtain ⟨I2, O2, J2, e2, hR2, rfl⟩ := hq
  rw [e1] at e2
  cases e2
  refine lv_icmp_eq (tgt := 845) hx hb dL_law_520 (by decide) (fun _ => ?_) (fun c9 => absurd rfl c9)
  refine lv_iinc (v := nI (i + 5)) (lv' := [(3, .int (nI (i + 5))), (0, .ref b), (1, .ref (adx 0 0)), (2, .ref (adm 0 0))]) hx hb dL_law_845 hl (k := 0) rfl (nI_add i 5) (by decide) rfl (fun ls hl => ?_)
  refine lv_goto (tgt := 18) hx hb dL_law_848 (by decide) ?_
  refine W.widen (k := 35 + (i + 5)) (n := 639 + 6 * (i + 5)) (by omega) (by omega) ?_
  exact kk9 adx adm n I1 O1 J2 H locs ls hjx hjm (ys_rake hY e1) hR2 hPx hDx hPm hDm (fun a x y h1 h2 => hdis a y x h2 h1) hS hl
