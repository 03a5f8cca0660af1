/-! MAKING: the rows of methods that make cells -/
def xAO (U : State) : Prop := (va_AO "WagonSidings$Wagon" U ∧ va_AO "WagonSidings$Track" U ∧ va_AO "WagonSidings$Rake" U ∧ va_AO "WagonSidings$Table" U) ∧ va_Nw (.methodLinkNest RX4 33 yX2_init "WagonSidings") U ∧ va_Nw (.methodLinkNest RX4 34 yX0_init "WagonSidings") U ∧ va_Nw (.methodLinkNest RX4 35 yX1_init "WagonSidings") U
theorem xAO.warm {s U : State} (hW : s.WarmedH U.vm) (h : xAO s) : xAO U := ⟨⟨h.1.1.moved hW.alike, h.1.2.1.moved hW.alike, h.1.2.2.1.moved hW.alike, h.1.2.2.2.moved hW.alike⟩, va_Nw.warmM hW h.2.1, va_Nw.warmM hW h.2.2.1, va_Nw.warmM hW h.2.2.2⟩
theorem xAO.same {s U : State} (hW : s.vm = U.vm) (h : xAO s) : xAO U := by
  have ha : s.vm.Alike U.vm := by rw [hW]; exact Vm.Alike.refl _
  exact ⟨⟨h.1.1.moved ha, h.1.2.1.moved ha, h.1.2.2.1.moved ha, h.1.2.2.2.moved ha⟩, va_Nw.same rfl hW h.2.1, va_Nw.same rfl hW h.2.2.1, va_Nw.same rfl hW h.2.2.2⟩
def fw_PcA (D : va_G) (cl : List vw_C) (tys : List (ClassId × FieldType)) (w : fw_W) (sz : Nat) (av : List Value) : Array Value → State → Prop := va_Pc av (fun U => U.heap.size = sz ∧ fw_P D cl w U.heap ∧ va_K D cl tys U ∧ xAO U)
def fw_MvA (l : Launch) (y : MethodName) (ws : List Cond) (rm : Room) (mc ms : Nat) (D : va_G) (cl : List vw_C) (tys : List (ClassId × FieldType)) (w : fw_W) (av : List Value) (post : fw_W → Prop) : Prop :=
  ∀ sz : Nat, Met l y ws rm (fw_PcA D cl tys w sz av) (va_Qv post (fw_B D cl tys (fw_A w sz)) (fw_A w sz)) mc ms (fw_A w sz)
theorem fw_preSA {s : State} {H : Heap} {D : va_G} {cl : List vw_C} {tys : List (ClassId × FieldType)} {w : fw_W} {As : List Value} (hK : va_K D cl tys s) (hO : xAO s) (hP : fw_P D cl w H) : PreS s H (fw_PcA D cl tys w H.size As) As :=
  ⟨fun a U g mk q => by
    obtain ⟨q0, q1, qP, qK, qO⟩ := q
    exact ⟨q0, q1, qP, va_K.moved (u := U) (U := U.calling g mk a) (Vm.Alike.refl U.vm) qK, xAO.same (s := U) (U := U.calling g mk a) rfl qO⟩, fun U hU hW => ⟨rfl, by rw [hU], by rw [hU]; exact hP, va_K.moved hW.alike hK, hO.warm hW⟩⟩
theorem fw_ofvA {l : Launch} {y : MethodName} {ws ws' : List Cond} {rm : Room} {mc ms : Nat} {D : va_G} {cl : List vw_C} {tys : List (ClassId × FieldType)} {w : fw_W} {av : List Value} {cc : ByteArray} {maxL : Nat} {ret : Option FieldType} {post : fw_W → Prop} (hy : plainName y.cls = true) (hw : ws = Cond.code y cc maxL ret :: ws') (hm : (lg_sl av).length ≤ maxL)
    (body : ∀ (p : Program) (e : Env) (s : State) (m : MethodId) (args : Array Value) (below : List Frame) (meth : Method) (c : Code) (A : Nat → Prop) (ls : Array Slot), p.tables.exec = Jvm.exec → c.code = cc → c.maxLocals = maxL → meth.sig.returnType = ret → meth.locks = false → meth.name = y.name → (∀ w ∈ ws, w.before args s = true) → s.vm.findClass y.cls = some m.cls → va_K D cl tys s → xAO s → fw_P D cl w s.heap → fw_D A w → (∀ q : Nat, s.heap.size ≤ q → A q) → va_S A s.heap s.heap [] → lv_has ls maxL (lv_args 0 av) →
      W p l e rm s m args below meth c s.heap [] 0 0 (MQ below (va_Qv post (fw_B D cl tys A) A) args s mc ms A) (F0 m 0 ls [])) : fw_MvA l y ws rm mc ms D cl tys w av post := by
  intro sz
  refine Met.ofW (cc := cc) (maxL := maxL) (ret := ret) hy hw ?_
  intro p e s m args below meth c s₁ B hml hv
  obtain ⟨rfl, hsz, hP, hK, hO⟩ := hv
  subst hsz
  rw [lg_entry_eq]
  exact body p e s m _ below meth c (fw_A w s.heap.size) _ B.exec B.bytes hml B.returns B.notSynchronized (name_of_methodNamed B.named B.method).1 (atoms_spec (ws := ws) B.pre) (findClass_of_methodNamed B.named) hK hO hP (fw_D.self w _) (fun q h => Or.inr h) va_S.rf (lv_entry av hm)
theorem fw_up_up (w : fw_W) (a : Nat) (e e' : va_E) : fw_up (fw_up w a e) a e' = fw_up w a e' := by
  funext b
  by_cases h : b = a
  · subst h; rw [fw_up_self, fw_up_self]
  · rw [fw_up_ne h, fw_up_ne h, fw_up_ne h]
theorem fw_up_comm {w : fw_W} {a b : Nat} {e e' : va_E} (h : a ≠ b) : fw_up (fw_up w a e) b e' = fw_up (fw_up w b e') a e := by
  funext x
  by_cases h1 : x = a
  · subst h1; rw [fw_up_ne h, fw_up_self, fw_up_self]
  · rw [fw_up_ne (w := fw_up w b e') h1]
    by_cases h2 : x = b
    · subst h2; rw [fw_up_self, fw_up_self]
    · rw [fw_up_ne h2, fw_up_ne h1, fw_up_ne h2]
theorem sw_char {V : Nat → Nat → Prop} {ad : Nat → Nat → Nat} {E : Nat → Nat → va_E} {w : fw_W} (hj : sj V ad) (h1 : ∀ k i, V k i → w (ad k i) = some (E k i)) (h2 : ∀ a, (∀ k i, V k i → ad k i ≠ a) → w a = none) : w = sw V ad E := by
  funext a
  by_cases hx : ∃ q : Nat × Nat, V q.1 q.2 ∧ ad q.1 q.2 = a
  · obtain ⟨⟨k, i⟩, g1, g2⟩ := hx
    dsimp only at g1 g2
    rw [← g2, sw_at hj g1, h1 k i g1]
  · rw [h2 a (fun k i g1 g2 => hx ⟨(k, i), g1, g2⟩), sw_none (fun k i g1 g2 => hx ⟨(k, i), g1, g2⟩)]
/-- one cell more, and one that is another -/
theorem sw_new_up {V V' : Nat → Nat → Prop} {ad : Nat → Nat → Nat} {E E2 : Nat → Nat → va_E} {e e2 : va_E} {k i q k2 i2 : Nat} (hj : sj V ad) (hq : sw V ad E q = none) (hv : V' k i) (hn : ¬ V k i) (hV : ∀ k' i', V' k' i' ↔ V k' i' ∨ (k' = k ∧ i' = i)) (h2 : V k2 i2) (he : E2 k i = e) (he2 : E2 k2 i2 = e2) (ho : ∀ k' i', V k' i' → ¬ (k' = k2 ∧ i' = i2) → E2 k' i' = E k' i') : fw_up (fw_up (sw V ad E) q e) (ad k2 i2) e2 = sw V' (sa ad k i q) E2 := by
  have hne : ¬ (k2 = k ∧ i2 = i) := fun z => hn (by rw [← z.1, ← z.2]; exact h2)
  have hj' := sw_sj (V' := V') hj hq (fun k' i' h => (hV k' i').mp h)
  have ha : ad k2 i2 = sa ad k i q k2 i2 := (sa_ne hne).symm
  rw [sw_new (V' := V') (E' := fun k' i' => if k' = k2 ∧ i' = i2 then E k2 i2 else E2 k' i') hj hq hv hn hV (e := e) (by
      try dsimp only
      rw [if_neg (fun z => hne ⟨z.1.symm, z.2.symm⟩)]
      exact he) (fun k' i' h => by
      try dsimp only
      by_cases z : k' = k2 ∧ i' = i2
      · rw [if_pos z, z.1, z.2]
      · rw [if_neg z]
        exact ho k' i' h z), ha]
  refine sw_up hj' ((hV k2 i2).mpr (Or.inl h2)) he2 (fun k' i' _ z => ?_)
  try dsimp only
  rw [if_neg z]
/-- a new wagon -/
def wI (I : sI) (n : Nat) (k v : Int32) : sI := upI (upI (upI (upI I 0 n k) 1 n v) 2 n 0) 3 n (-1)
noncomputable def sp_wagon (n : Nat) (I : sI) (O : sO) (k v : Int32) : Int32 × Nat × sI × sO := pif (isKd k) (if n = 40 then (-104, n, I, O) else (nI n, n + 1, wI I n k v, upO O 0 n none)) (-102, n, I, O)
theorem xV_s (n k i : Nat) : xV (n + 1) k i ↔ xV n k i ∨ (k = 5 ∧ i = n) := by
  unfold xV
  split <;> simp_all
  omega
theorem wI_ne {I : sI} {n : Nat} {k v : Int32} {g j : Nat} (h : ¬ (g < 4 ∧ j = n)) : wI I n k v g j = I g j := by
  unfold wI
  rw [upI_n (by omega), upI_n (by omega), upI_n (by omega), upI_n (by omega)]
theorem x_wagon {kk : Nat → ClassId} {ad : Nat → Nat → Nat} {n : Nat} {I : sI} {O : sO} (hj : sj (xV n) ad) (hI : xI n O) {q : Nat} (hq : xw kk ad n I O q = none) {k v : Int32} :
    fw_up (fw_up (fw_up (xw kk ad n I O) q (.inr (3, [.int (nI n), .int k, .int v, .null, .int 0, .int (-1)]))) (ad 1 0) (.inl (kk 1, 40, .inr (.inr (.inr (.inr (va_up (fun j => if j < n then some (ad 5 j) else none) n (some q)))))))) (ad 0 0) (.inr (4, [.ref (ad 1 0), .int (nI (n + 1)), .ref (ad 2 0), .ref (ad 3 0), .ref (ad 4 0), .int (I 11 0), .int (I 11 1), .int (I 11 2)])) = xw kk (sa ad 5 n q) (n + 1) (wI I n k v) (upO O 0 n none) := by
  have hs : ∀ k' i', ¬ k' = 5 → sa ad 5 n q k' i' = ad k' i' := fun k' i' h => sa_ne (fun z => h z.1)
  have hm : ∀ f i, (O f i).map (sa ad 5 n q 5) = (O f i).map (ad 5) := fun f i => by
    cases h : O f i with
    | none => rfl
    | some j =>
      have := hI.2.1 f i j h
      show some _ = some _
      rw [sa_ne (by omega)]
  have hrow : (fun j => if j < n + 1 then some (sa ad 5 n q 5 j) else none) = va_up (fun j => if j < n then some (ad 5 j) else none) n (some q) := by
    funext j
    unfold va_up
    by_cases h : j = n
    · subst h; rw [if_pos (by omega), if_pos rfl, sa_self]
    · rw [if_neg h]
      show _ = (if j < n then some (ad 5 j) else none)
      by_cases h2 : j < n
      · rw [if_pos (by omega), if_pos h2, sa_ne (by omega)]
      · rw [if_neg (by omega), if_neg h2]
  have hj' := sw_sj (V' := xV (n + 1)) hj hq (fun k' i' h => (xV_s n k' i').mp h)
  rw [sw_new_up (V' := xV (n + 1)) (E2 := fun k' i' => if k' = 0 then xE kk ad n I O k' i' else xE kk (sa ad 5 n q) (n + 1) (wI I n k v) (upO O 0 n none) k' i') (k := 5) (i := n) (k2 := 1) (i2 := 0) hj hq ((xV_s n 5 n).mpr (Or.inr ⟨rfl, rfl⟩)) (fun z => Nat.lt_irrefl n z) (xV_s n) rfl ?_ ?_ ?_]
  · rw [← hs 0 0 (by decide)]
    refine sw_up hj' (k := 0) (i := 0) rfl ?_ (fun k' i' hv z => ?_)
    · show Sum.inr _ = _
      rw [hs 1 0 (by decide), hs 2 0 (by decide), hs 3 0 (by decide), hs 4 0 (by decide), wI_ne (by omega), wI_ne (by omega), wI_ne (by omega)]
    · try dsimp only
      by_cases h0 : k' = 0
      · subst h0
        exact absurd ⟨rfl, hv⟩ z
      · rw [if_neg h0]
  · show Sum.inr _ = _
    simp [wI, upI, upO, va_rf]
  · show Sum.inl _ = _
    rw [hrow]
  · intro k' i' hv z
    try dsimp only
    by_cases h0 : k' = 0
    · rw [if_pos h0]
    rw [if_neg h0]
    have hO : ∀ f j, ¬ (f = 0 ∧ j = n) → upO O 0 n none f j = O f j := fun f j h => upO_n h
    unfold xE
    split
    · exact absurd rfl h0
    · exact absurd ⟨rfl, hv⟩ z
    · simp only [hs 6 _ (by decide)]
    · simp only [hs 7 _ (by decide)]
    · simp only [hs 9 _ (by decide)]
    · have hv : i' < n := hv
      rw [hO 0 i' (by omega), hm, wI_ne (by omega), wI_ne (by omega), wI_ne (by omega), wI_ne (by omega)]
    · rw [hO 1 i' (by omega), hm, wI_ne (by omega)]
    · rw [hs 8 i' (by decide), wI_ne (by omega), wI_ne (by omega), wI_ne (by omega)]
    · have : (fun j => if j < 12 then (upO O 0 n none (2 + i') j).map (sa ad 5 n q 5) else none) = (fun j => if j < 12 then (O (2 + i') j).map (ad 5) else none) := by
        funext j
        rw [hO (2 + i') j (by omega), hm]
      rw [this]
    · rw [hs 10 i' (by decide), wI_ne (by omega), wI_ne (by omega), wI_ne (by omega)]
    · have : (fun j => if j < 72 then wI I n k v (20 + i') j else 0) = (fun j => if j < 72 then I (20 + i') j else 0) := by
        funext j
        rw [wI_ne (by omega)]
      rw [this]
    · rfl

theorem n40 {n : Nat} {O : sO} (hI : xI n O) (h : ¬ nI n < nI 40) : n = 40 := by
  have h9 := hI.1
  have h8 := mt (nI_ltI (a := n) (b := 40) (by omega) (by decide)).mpr h
  omega
theorem a0_int (N : Nat) (cA : ClassId) : vp_cell cA (N, .inl (fun _ => 0)) = arrV cA N (fun _ => defaultValue .int) := rfl
set_option maxHeartbeats 4000000 in
set_option maxRecDepth 100000 in
theorem c_X3_init (l : Launch) (D : va_G) (kk : Nat → ClassId) (w : fw_W) (q : Nat) (hq : w q = some (.inr (3, [.int 0, .int 0, .int 0, .null, .int 0, .int 0]))) (a b c0 : Int32) : fw_Mv l yX3_init wsX3_init { frames := 1, cells := 0, slots := 0, locals := 12 } 0 0 D vwCl (xT kk) w [.ref q, .int a, .int b, .int c0] (fun w1 => w1 = fw_up w q (.inr (3, [.int a, .int b, .int c0, .null, .int 0, .int (-1)]))) := by
  refine fw_ofv (cc := cX3_init) (maxL := 4) (ret := none) (by decide) rfl (Nat.le_of_ble_eq_true rfl) ?_
  intro p e s m args below meth c A ls hx hb hml hr hlocks hnm hts hown hK hP hD hA hS hl
  have hown : s.vm.findClass RX3 = some m.cls := hown
  have hl : lv_has ls 4 [(0, .ref q), (1, .int a), (2, .int b), (3, .int c0)] := hl
  have in3 : ∀ w ∈ u_ws RX3 TX3 6, w ∈ wsX3_init := by decide +kernel
  have hnm : meth.name = "<init>" := hnm
  refine lv_aload_n hx hb dX3_init_0 rfl (lv_at hl 0 rfl) ?_
  refine W.objInit hx hb hown (hts (.methodLink RX3 3 objectInit) (by decide +kernel)) (hts (.instanceMethod objectInit) (by decide +kernel)) (hts _ (List.mem_cons_of_mem _ (List.mem_append_left _ (List.mem_of_getElem? (i := 2) rfl)))) rfl (by rw [hml]; exact hl.1) rfl dX3_init_1 (Nat.le_of_ble_eq_true rfl) (Nat.le_of_ble_eq_true rfl) ?_
  refine W.eq (g2 := F0 m 4 ls []) rfl ?_
  refine lv_aload_n hx hb dX3_init_4 rfl (lv_at hl 0 rfl) ?_
  refine lv_iconst (v := (-1)) hx hb dX3_init_5 (by decide) ?_
  refine fw_put (v := .int (-1)) (ty := .int) (C := RX3) (T := TX3) (N := 6) hx hb hts in3 tyX3 tyX3_ok nmX3 hown hK hP hD hS hq rfl 5 (by decide) (hts (.fieldLink RX3 9 "WagonSidings$Wagon" "firstOn" "I") (by decide +kernel)) (fun _ h9 => h9) rfl (by decide +kernel) rfl rfl (Nat.le_of_ble_eq_true rfl) dX3_init_6 (w1 := fw_up w q (.inr (3, [.int 0, .int 0, .int 0, .null, .int 0, .int (-1)]))) rfl (fun H locs hP hD hS => ?_)
  refine lv_aload_n hx hb dX3_init_9 rfl (lv_at hl 0 rfl) ?_
  refine lv_iload_n hx hb dX3_init_10 rfl (lv_at hl 1 rfl) ?_
  refine fw_putF (v := .int a) (ty := .int) (C := RX3) (T := TX3) (N := 6) hx hb hts in3 tyX3 tyX3_ok nmX3 hown hK hP hD hS (fw_up_self _ _ _) rfl 0 (by decide) (hts (.fieldLink RX3 15 "WagonSidings$Wagon" "number" "I") (by decide +kernel)) (fun _ h9 => h9) rfl hnm rfl (by decide +kernel) rfl rfl (Nat.le_of_ble_eq_true rfl) dX3_init_11 (w1 := fw_up (fw_up w q (.inr (3, [.int 0, .int 0, .int 0, .null, .int 0, .int (-1)]))) q (.inr (3, [.int a, .int 0, .int 0, .null, .int 0, .int (-1)]))) rfl (fun H locs hP hD hS => ?_)
  refine lv_aload_n hx hb dX3_init_14 rfl (lv_at hl 0 rfl) ?_
  refine lv_iload_n hx hb dX3_init_15 rfl (lv_at hl 2 rfl) ?_
  refine fw_putF (v := .int b) (ty := .int) (C := RX3) (T := TX3) (N := 6) hx hb hts in3 tyX3 tyX3_ok nmX3 hown hK hP hD hS (fw_up_self _ _ _) rfl 1 (by decide) (hts (.fieldLink RX3 18 "WagonSidings$Wagon" "kind" "I") (by decide +kernel)) (fun _ h9 => h9) rfl hnm rfl (by decide +kernel) rfl rfl (Nat.le_of_ble_eq_true rfl) dX3_init_16 (w1 := fw_up (fw_up (fw_up w q (.inr (3, [.int 0, .int 0, .int 0, .null, .int 0, .int (-1)]))) q (.inr (3, [.int a, .int 0, .int 0, .null, .int 0, .int (-1)]))) q (.inr (3, [.int a, .int b, .int 0, .null, .int 0, .int (-1)]))) rfl (fun H locs hP hD hS => ?_)
  refine lv_aload_n hx hb dX3_init_19 rfl (lv_at hl 0 rfl) ?_
  refine lv_iload_n hx hb dX3_init_20 rfl (lv_at hl 3 rfl) ?_
  refine fw_put (v := .int c0) (ty := .int) (C := RX3) (T := TX3) (N := 6) hx hb hts in3 tyX3 tyX3_ok nmX3 hown hK hP hD hS (fw_up_self _ _ _) rfl 2 (by decide) (hts (.fieldLink RX3 21 "WagonSidings$Wagon" "cargo" "I") (by decide +kernel)) (fun _ h9 => h9) rfl (by decide +kernel) rfl rfl (Nat.le_of_ble_eq_true rfl) dX3_init_21 (w1 := fw_up (fw_up (fw_up (fw_up w q (.inr (3, [.int 0, .int 0, .int 0, .null, .int 0, .int (-1)]))) q (.inr (3, [.int a, .int 0, .int 0, .null, .int 0, .int (-1)]))) q (.inr (3, [.int a, .int b, .int 0, .null, .int 0, .int (-1)]))) q (.inr (3, [.int a, .int b, .int c0, .null, .int 0, .int (-1)]))) rfl (fun H locs hP hD hS => ?_)
  exact fw_vret hx hb hr hlocks hK hP hD hS dX3_init_24 (by simp only [fw_up_up])

set_option maxHeartbeats 4000000 in
set_option maxRecDepth 100000 in
theorem c_X2_init (l : Launch) (D : va_G) (kk : Nat → ClassId) (w : fw_W) (q : Nat) (hq : w q = some (.inr (2, [.null, .int 0]))) : fw_Mv l yX2_init wsX2_init { frames := 1, cells := 0, slots := 0, locals := 12 } 0 0 D vwCl (xT kk) w [.ref q] (fun w1 => w1 = fw_up w q (.inr (2, [.null, .int (-1)]))) := by
  refine fw_ofv (cc := cX2_init) (maxL := 1) (ret := none) (by decide) rfl (Nat.le_of_ble_eq_true rfl) ?_
  intro p e s m args below meth c A ls hx hb hml hr hlocks hnm hts hown hK hP hD hA hS hl
  have hown : s.vm.findClass RX2 = some m.cls := hown
  have hl : lv_has ls 1 [(0, .ref q)] := hl
  have in2 : ∀ w ∈ u_ws RX2 TX2 2, w ∈ wsX2_init := by decide +kernel
  have hnm : meth.name = "<init>" := hnm
  refine lv_aload_n hx hb dX2_init_0 rfl (lv_at hl 0 rfl) ?_
  refine W.objInit hx hb hown (hts (.methodLink RX2 3 objectInit) (by decide +kernel)) (hts (.instanceMethod objectInit) (by decide +kernel)) (hts _ (List.mem_cons_of_mem _ (List.mem_append_left _ (List.mem_of_getElem? (i := 2) rfl)))) rfl (by rw [hml]; exact hl.1) rfl dX2_init_1 (Nat.le_of_ble_eq_true rfl) (Nat.le_of_ble_eq_true rfl) ?_
  refine W.eq (g2 := F0 m 4 ls []) rfl ?_
  refine lv_aload_n hx hb dX2_init_4 rfl (lv_at hl 0 rfl) ?_
  refine lv_iconst (v := (-1)) hx hb dX2_init_5 (by decide) ?_
  refine fw_put (v := .int (-1)) (ty := .int) (C := RX2) (T := TX2) (N := 2) hx hb hts in2 tyX2 tyX2_ok nmX2 hown hK hP hD hS hq rfl 1 (by decide) (hts (.fieldLink RX2 9 "WagonSidings$Track" "hung" "I") (by decide +kernel)) (fun _ h9 => h9) rfl (by decide +kernel) rfl rfl (Nat.le_of_ble_eq_true rfl) dX2_init_6 (w1 := fw_up w q (.inr (2, [.null, .int (-1)]))) rfl (fun H locs hP hD hS => ?_)
  exact fw_vret hx hb hr hlocks hK hP hD hS dX2_init_9 (by simp only [fw_up_up])

set_option maxHeartbeats 4000000 in
set_option maxRecDepth 100000 in
theorem c_X0_init (l : Launch) (D : va_G) (kk : Nat → ClassId) (w : fw_W) (q : Nat) (hq : w q = some (.inr (0, [.int 0, .int 0, .int 0, .null]))) : fw_MvA l yX0_init wsX0_init { frames := 1, cells := 1, slots := 12, locals := 12 } 1 12 D vwCl (xT kk) w [.ref q] (fun w1 => ∃ q2, w q2 = none ∧ w1 = fw_up (fw_up w q2 (.inl (kk 1, 12, .inr (.inr (.inr (.inr (fun _ => none))))))) q (.inr (0, [.int 0, .int 0, .int 0, .ref q2]))) := by
  refine fw_ofvA (cc := cX0_init) (maxL := 1) (ret := none) (by decide) rfl (Nat.le_of_ble_eq_true rfl) ?_
  intro p e s m args below meth c A ls hx hb hml hr hlocks hnm hts hown hK hO hP hD hA hS hl
  have hown : s.vm.findClass RX0 = some m.cls := hown
  have hl : lv_has ls 1 [(0, .ref q)] := hl
  have in0 : ∀ w ∈ u_ws RX0 TX0 4, w ∈ wsX0_init := by decide +kernel
  have hnm : meth.name = "<init>" := hnm
  refine lv_aload_n hx hb dX0_init_0 rfl (lv_at hl 0 rfl) ?_
  refine W.objInit hx hb hown (hts (.methodLink RX0 3 objectInit) (by decide +kernel)) (hts (.instanceMethod objectInit) (by decide +kernel)) (hts _ (List.mem_cons_of_mem _ (List.mem_append_left _ (List.mem_of_getElem? (i := 2) rfl)))) rfl (by rw [hml]; exact hl.1) rfl dX0_init_1 (Nat.le_of_ble_eq_true rfl) (Nat.le_of_ble_eq_true rfl) ?_
  refine W.eq (g2 := F0 m 4 ls []) rfl ?_
  refine lv_aload_n hx hb dX0_init_4 rfl (lv_at hl 0 rfl) ?_
  refine lv_bipush (v := 12) hx hb dX0_init_5 (by decide) ?_
  refine fw_newq (t0 := 1) (N' := 12) hx hb hown (hts (.classLink RX0 9 RX3) (by decide +kernel)) hO.1.1 hK hP hD hS hA rfl (by decide) rfl (by decide) (Nat.le_of_ble_eq_true rfl) (Nat.le_of_ble_eq_true rfl) dX0_init_7 (fun q1 H hq1 hP hD hS => ?_)
  refine fw_putF (v := .ref q1) (ty := .array (.object "WagonSidings$Wagon")) (C := RX0) (T := TX0) (N := 4) hx hb hts in0 tyX0 tyX0_ok nmX0 hown hK hP hD hS ((fw_up_ne (fun z => by rw [← z] at hq1; rw [hq] at hq1; cases hq1)).trans hq) rfl 3 (by decide) (hts (.fieldLink RX0 11 "WagonSidings$Rake" "row" "[LWagonSidings$Wagon;") (by decide +kernel)) (fun _ h9 => h9) rfl hnm rfl (by decide +kernel) rfl rfl (Nat.le_of_ble_eq_true rfl) dX0_init_10 (w1 := fw_up (fw_up w q1 (.inl (kk 1, 12, .inr (.inr (.inr (.inr (fun _ => none))))))) q (.inr (0, [.int 0, .int 0, .int 0, .ref q1]))) rfl (fun H locs hP hD hS => ?_)
  exact fw_vret hx hb hr hlocks hK hP hD hS dX0_init_13 ⟨_, hq1, rfl⟩

set_option maxHeartbeats 4000000 in
set_option maxRecDepth 100000 in
theorem c_X1_init (l : Launch) (D : va_G) (kk : Nat → ClassId) (w : fw_W) (q : Nat) (hq : w q = some (.inr (1, [.int 0, .int 0, .int 0, .null]))) : fw_Mv l yX1_init wsX1_init { frames := 1, cells := 1, slots := 72, locals := 12 } 1 72 D vwCl (xT kk) w [.ref q] (fun w1 => ∃ q2, w q2 = none ∧ w1 = fw_up (fw_up w q2 (.inl (kk 0, 72, .inl (fun _ => 0)))) q (.inr (1, [.int 0, .int 0, .int 0, .ref q2]))) := by
  refine fw_ofv (cc := cX1_init) (maxL := 1) (ret := none) (by decide) rfl (Nat.le_of_ble_eq_true rfl) ?_
  intro p e s m args below meth c A ls hx hb hml hr hlocks hnm hts hown hK hP hD hA hS hl
  have hown : s.vm.findClass RX1 = some m.cls := hown
  have hl : lv_has ls 1 [(0, .ref q)] := hl
  have in1 : ∀ w ∈ u_ws RX1 TX1 4, w ∈ wsX1_init := by decide +kernel
  have hnm : meth.name = "<init>" := hnm
  refine lv_aload_n hx hb dX1_init_0 rfl (lv_at hl 0 rfl) ?_
  refine W.objInit hx hb hown (hts (.methodLink RX1 3 objectInit) (by decide +kernel)) (hts (.instanceMethod objectInit) (by decide +kernel)) (hts _ (List.mem_cons_of_mem _ (List.mem_append_left _ (List.mem_of_getElem? (i := 2) rfl)))) rfl (by rw [hml]; exact hl.1) rfl dX1_init_1 (Nat.le_of_ble_eq_true rfl) (Nat.le_of_ble_eq_true rfl) ?_
  refine W.eq (g2 := F0 m 4 ls []) rfl ?_
  refine lv_aload_n hx hb dX1_init_4 rfl (lv_at hl 0 rfl) ?_
  refine lv_bipush (v := 72) hx hb dX1_init_5 (by decide) ?_
  refine fw_newa (atype := .int) (ty := .int) (cA := kk 0) (t0 := 0) (N' := 72) (a0 := (72, .inl (fun _ => 0))) hx hb (hts (.arrayClass .int) (by decide +kernel)) rfl hK hP hD hS hA rfl (a0_int _) (by decide) (by decide +kernel) (by decide) (Nat.le_of_ble_eq_true rfl) (Nat.le_of_ble_eq_true rfl) dX1_init_7 (fun q1 H hq1 hP hD hS => ?_)
  refine fw_putF (v := .ref q1) (ty := .array .int) (C := RX1) (T := TX1) (N := 4) hx hb hts in1 tyX1 tyX1_ok nmX1 hown hK hP hD hS ((fw_up_ne (fun z => by rw [← z] at hq1; rw [hq] at hq1; cases hq1)).trans hq) rfl 3 (by decide) (hts (.fieldLink RX1 9 "WagonSidings$Table" "cells" "[I") (by decide +kernel)) (fun _ h9 => h9) rfl hnm rfl (by decide +kernel) rfl rfl (Nat.le_of_ble_eq_true rfl) dX1_init_9 (w1 := fw_up (fw_up w q1 (.inl (kk 0, 72, .inl (fun _ => 0)))) q (.inr (1, [.int 0, .int 0, .int 0, .ref q1]))) rfl (fun H locs hP hD hS => ?_)
  exact fw_vret hx hb hr hlocks hK hP hD hS dX1_init_12 ⟨_, hq1, rfl⟩

set_option maxHeartbeats 4000000 in
set_option maxRecDepth 100000 in
theorem c_X4_wagon (l : Launch) (D : va_G) (kk : Nat → ClassId) (ad : Nat → Nat → Nat) (n : Nat) (I : sI) (O : sO) (hj : sj (xV n) ad) (hI : xI n O) (k v : Int32) : fw_Mi l yX4_wagon wsX4_wagon { frames := 2, cells := 1, slots := 6, locals := 35 } 1 6 D vwCl (xT kk) (xw kk ad n I O) [.ref (ad 0 0), .int k, .int v] (fun r w1 => ∃ ad1 n1 I1 O1, sp_wagon n I O k v = (r, n1, I1, O1) ∧ ad1 0 0 = ad 0 0 ∧ sj (xV n1) ad1 ∧ w1 = xw kk ad1 n1 I1 O1) := by
  refine fw_ofi (cc := cX4_wagon) (maxL := 4) (ret := (some .int)) (by decide) rfl (Nat.le_of_ble_eq_true rfl) ?_
  intro p e s m args below meth c A ls hx hb hml hr hlocks hnm hts hown hK hP hD hA hS hl
  have hown : s.vm.findClass RX4 = some m.cls := hown
  have hl : lv_has ls 4 [(0, .ref (ad 0 0)), (1, .int k), (2, .int v)] := hl
  have in3 : ∀ w ∈ u_ws RX3 TX3 6, w ∈ wsX4_wagon := by decide +kernel
  have in4 : ∀ w ∈ u_ws RX4 TX4 8, w ∈ wsX4_wagon := by decide +kernel
  refine lv_iload_n hx hb dX4_wagon_0 rfl (lv_at hl 1 rfl) ?_
  refine fw_calli (va_runS (As := [.int k]) (rest := []) ⟨hx, hb, hml, hown, hts⟩ (c_X4_isKind l D kk _ k _) (va_cwS 1 hts gX4_wagon_X4_isKind rfl rfl rfl (by decide +kernel) ⟨Nat.le_of_ble_eq_true rfl, Nat.le_of_ble_eq_true rfl⟩) (fw_preS hK hP) rfl rfl hl.1 rfl (lv_room (Nat.le_of_ble_eq_true rfl)) dX4_wagon_1 ⟨Nat.le_of_ble_eq_true rfl, Nat.le_of_ble_eq_true rfl⟩) hD hS hA (fun r w1 H locs hq hP hD hS => ?_)
  obtain ⟨rfl, rfl⟩ := hq
  by_cases hb1 : isKd k
  · rw [pif_t hb1]
    refine lv_if_ne (tgt := 10) hx hb dX4_wagon_4 (by decide) (fun _ => ?_) (fun c9 => absurd c9 (by decide))
    refine lv_aload_n hx hb dX4_wagon_10 rfl (lv_at hl 0 rfl) ?_
    refine fw_get (v := .int (nI n)) (C := RX4) (T := TX4) (N := 8) hx hb hts in4 hown hK hP (x_at0 hj) rfl 1 (by decide) (hts (.fieldLink RX4 40 "WagonSidings" "wagonCount" "I") (by decide +kernel)) (fun _ h9 => h9) rfl dX4_wagon_11 ?_
    refine lv_aload_n hx hb dX4_wagon_14 rfl (lv_at hl 0 rfl) ?_
    refine fw_get (v := .ref (ad 1 0)) (C := RX4) (T := TX4) (N := 8) hx hb hts in4 hown hK hP (x_at0 hj) rfl 0 (by decide) (hts (.fieldLink RX4 11 "WagonSidings" "wagons" "[LWagonSidings$Wagon;") (by decide +kernel)) (fun _ h9 => h9) rfl dX4_wagon_15 ?_
    refine fw_alen (v := nI 40) hx hb hK hP 1 (x_at1 hj) rfl rfl dX4_wagon_18 ?_
    refine lv_icmp_lt (tgt := 25) hx hb dX4_wagon_19 (by decide) (fun c_19 => ?_) (fun c_19 => ?_)
    · refine lv_aload_n hx hb dX4_wagon_25 rfl (lv_at hl 0 rfl) ?_
      refine fw_get (v := .int (nI n)) (C := RX4) (T := TX4) (N := 8) hx hb hts in4 hown hK hP (x_at0 hj) rfl 1 (by decide) (hts (.fieldLink RX4 40 "WagonSidings" "wagonCount" "I") (by decide +kernel)) (fun _ h9 => h9) rfl dX4_wagon_26 ?_
      refine lv_istore_n (lv' := [(3, .int (nI n)), (0, .ref (ad 0 0)), (1, .int k), (2, .int v)]) hx hb dX4_wagon_29 rfl hl (by decide) rfl (fun ls hl => ?_)
      refine lv_aload_n hx hb dX4_wagon_30 rfl (lv_at hl 1 rfl) ?_
      refine fw_get (v := .ref (ad 1 0)) (C := RX4) (T := TX4) (N := 8) hx hb hts in4 hown hK hP (x_at0 hj) rfl 0 (by decide) (hts (.fieldLink RX4 11 "WagonSidings" "wagons" "[LWagonSidings$Wagon;") (by decide +kernel)) (fun _ h9 => h9) rfl dX4_wagon_31 ?_
      refine lv_iload_n hx hb dX4_wagon_34 rfl (lv_at hl 0 rfl) ?_
      have hn40 : n < 40 := (nI_ltI (by have := hI.1; omega) (by decide)).mp c_19
      refine fw_new (ci := 3) (fs := [.int 0, .int 0, .int 0, .null, .int 0, .int 0]) (C := RX3) (T := TX3) (N := 6) hx hb hts in3 tyX3 tyX3_ok hown (hts (.classLink RX4 9 RX3) (by decide +kernel)) (hts (.instantiable RX3 6) (by decide +kernel)) (hts (.initialized RX3) (by decide +kernel)) hK hP hD hS hA rfl (fun j hj => by rcases (show j = 0 ∨ j = 1 ∨ j = 2 ∨ j = 3 ∨ j = 4 ∨ j = 5 by omega) with rfl | rfl | rfl | rfl | rfl | rfl <;> rfl) (Nat.le_of_ble_eq_true rfl) (Nat.le_of_ble_eq_true rfl) dX4_wagon_35 (fun q H hq hP hD hS => ?_)
      have h1q : ad 1 0 ≠ q := sw_ne hj hq (k := 1) (i := 0) rfl
      have h0q : ad 0 0 ≠ q := sw_ne hj hq (k := 0) (i := 0) rfl
      have h01 : ad 0 0 ≠ ad 1 0 := fun z => absurd (hj 0 0 1 0 rfl rfl z).1 (by decide)
      refine lv_dup hx hb dX4_wagon_38 rfl ?_
      refine lv_iload_n hx hb dX4_wagon_39 rfl (lv_at hl 0 rfl) ?_
      refine lv_iload_n hx hb dX4_wagon_40 rfl (lv_at hl 2 rfl) ?_
      refine lv_iload_n hx hb dX4_wagon_41 rfl (lv_at hl 3 rfl) ?_
      refine fw_callv (va_runI (As := [.int (nI n), .int k, .int v]) (rest := [.ref q, .int (nI n), .ref (ad 1 0)]) ⟨hx, hb, hml, hown, hts⟩ (c_X3_init l D kk _ q (fw_up_self _ _ _) (nI n) k v _) (cwI 3 hts gX4_wagon_X3_init rfl rfl rfl (hts (.initialized RX3) (by decide +kernel)) (hts (.methodLink RX4 44 yX3_init) (by decide +kernel)) (hts (.instanceMethod yX3_init) (by decide +kernel)) rfl (by decide +kernel) ⟨Nat.le_of_ble_eq_true rfl, Nat.le_of_ble_eq_true rfl⟩) (fw_preS hK hP) rfl rfl hl.1 rfl (lv_room (Nat.le_of_ble_eq_true rfl)) dX4_wagon_42 ⟨Nat.le_of_ble_eq_true rfl, Nat.le_of_ble_eq_true rfl⟩) hD hS hA (fun w1 H locs hq1 hP hD hS => ?_)
      subst hq1
      rw [fw_up_up] at hP hD
      refine fw_astq (w1 := fw_up (fw_up (xw kk ad n I O) q (.inr (3, [.int (nI n), .int k, .int v, .null, .int 0, .int (-1)]))) (ad 1 0) (.inl (kk 1, 40, .inr (.inr (.inr (.inr (va_up (fun j => if j < n then some (ad 5 j) else none) n (some q)))))))) hx hb hK hP hD hS 1 3 ((fw_up_ne h1q).trans (x_at1 hj)) rfl (fw_up_self _ _ _) rfl (vp_in_nI hn40 (by decide)) dX4_wagon_45 (by rw [nI_clamp (by omega)]) (fun H locs hP hD hS => ?_)
      refine lv_aload_n hx hb dX4_wagon_46 rfl (lv_at hl 1 rfl) ?_
      refine lv_dup hx hb dX4_wagon_47 rfl ?_
      refine fw_get (v := .int (nI n)) (C := RX4) (T := TX4) (N := 8) hx hb hts in4 hown hK hP ((fw_up_ne h01).trans ((fw_up_ne h0q).trans (x_at0 hj))) rfl 1 (by decide) (hts (.fieldLink RX4 40 "WagonSidings" "wagonCount" "I") (by decide +kernel)) (fun _ h9 => h9) rfl dX4_wagon_48 ?_
      refine lv_iconst (v := 1) hx hb dX4_wagon_51 (by decide) ?_
      refine lv_iadd hx hb dX4_wagon_52 ?_
      refine W.eq (g2 := F0 m 53 ls [.int (nI (n + 1)), .ref (ad 0 0)]) (by rw [nI_1]) ?_
      refine fw_put (v := .int (nI (n + 1))) (ty := .int) (C := RX4) (T := TX4) (N := 8) hx hb hts in4 tyX4 tyX4_ok nmX4 hown hK hP hD hS ((fw_up_ne h01).trans ((fw_up_ne h0q).trans (x_at0 hj))) rfl 1 (by decide) (hts (.fieldLink RX4 40 "WagonSidings" "wagonCount" "I") (by decide +kernel)) (fun _ h9 => h9) rfl (by decide +kernel) rfl rfl (Nat.le_of_ble_eq_true rfl) dX4_wagon_53 (x_wagon hj hI hq) (fun H locs hP hD hS => ?_)
      refine lv_iload_n hx hb dX4_wagon_56 rfl (lv_at hl 0 rfl) ?_
      refine W.widen (k := 1) (n := 6) (Nat.le_of_ble_eq_true rfl) (Nat.le_of_ble_eq_true rfl) ?_
      exact fw_iret hx hb hr hlocks hK hP hD hS dX4_wagon_57 ⟨_, _, _, _, by rw [sp_wagon, pif_t hb1, if_neg (by omega)], sa_ne (fun z => absurd z.1 (by decide)), sw_sj hj hq (fun k' i' h => (xV_s n k' i').mp h), rfl⟩
    · refine lv_bipush (v := (-104)) hx hb dX4_wagon_22 (by decide) ?_
      refine W.widen (k := 1) (n := 6) (Nat.le_of_ble_eq_true rfl) (Nat.le_of_ble_eq_true rfl) ?_
      exact fw_iret hx hb hr hlocks hK hP hD hS dX4_wagon_24 ⟨ad, _, _, _, by rw [sp_wagon, pif_t hb1, if_pos (n40 hI c_19)], rfl, hj, rfl⟩
  · rw [pif_f hb1]
    refine lv_if_ne (tgt := 10) hx hb dX4_wagon_4 (by decide) (fun c9 => absurd c9 (by decide)) (fun _ => ?_)
    refine lv_bipush (v := (-102)) hx hb dX4_wagon_7 (by decide) ?_
    refine W.widen (k := 1) (n := 6) (Nat.le_of_ble_eq_true rfl) (Nat.le_of_ble_eq_true rfl) ?_
    exact fw_iret hx hb hr hlocks hK hP hD hS dX4_wagon_9 ⟨ad, _, _, _, by rw [sp_wagon, pif_f hb1], rfl, hj, rfl⟩
