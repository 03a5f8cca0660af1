/-! FUNCTIONAL WORLDS: a world is a partial map from addresses to cells; rows of the kit (lists of cells) turned to it -/
abbrev fw_W : Type := Nat → Option va_E
def fw_up (w : fw_W) (a : Nat) (e : va_E) : fw_W := fun b => if b = a then some e else w b
theorem fw_up_self (w : fw_W) (a : Nat) (e : va_E) : fw_up w a e a = some e := by simp [fw_up]
theorem fw_up_ne {w : fw_W} {a b : Nat} {e : va_E} (h : b ≠ a) : fw_up w a e b = w b := by simp [fw_up, h]
theorem fw_up_at {w : fw_W} {a b : Nat} {e x y : va_E} (h : w b = some x) (ha : w a = some y) (hne : x ≠ y) : fw_up w a e b = some x := by
  rw [fw_up_ne]
  · exact h
  · intro q
    subst q
    exact hne (Option.some.inj (h.symm.trans ha))
def fw_P (D : va_G) (cl : List vw_C) (w : fw_W) (H : Heap) : Prop := ∀ (a : Nat) (e : va_E), w a = some e → va_at D cl (a, e) H
def fw_D (A : Nat → Prop) (w : fw_W) : Prop := ∀ (a : Nat) (e : va_E), w a = some e → A a
/-- which cells a method may change: its world's, and those that it makes -/
def fw_A (w : fw_W) (sz : Nat) : Nat → Prop := fun a => (∃ e : va_E, w a = some e) ∨ sz ≤ a
def fw_ls (w : fw_W) (n : Nat) : va_W := (List.range n).filterMap (fun a => (w a).map (fun e => (a, e)))
theorem fw_ls_mem {w : fw_W} {n k : Nat} {q : Nat × va_E} (h : (fw_ls w n)[k]? = some q) : w q.1 = some q.2 := by
  obtain ⟨a, -, ha⟩ := List.mem_filterMap.mp (List.mem_of_getElem? h)
  cases hw : w a with
  | none => rw [hw] at ha; cases ha
  | some e => rw [hw] at ha; cases ha; exact hw
theorem fw_ls_at {w : fw_W} {n a : Nat} {e : va_E} (h : w a = some e) (hn : a < n) : ∃ k : Nat, (fw_ls w n)[k]? = some (a, e) :=
  List.getElem?_of_mem (List.mem_filterMap.mpr ⟨a, List.mem_range.mpr hn, by rw [h]; rfl⟩)
theorem fw_ls_pw (w : fw_W) (n : Nat) : (fw_ls w n).Pairwise (fun p q => p.1 < q.1) := by
  unfold fw_ls
  refine List.Pairwise.filterMap (R := fun a b : Nat => a < b) _ ?_ List.pairwise_lt_range
  intro a a' haa b hb b' hb'
  cases hw : w a with
  | none => rw [hw] at hb; cases hb
  | some e =>
    cases hw' : w a' with
    | none => rw [hw'] at hb'; cases hb'
    | some e' =>
      rw [hw] at hb
      rw [hw'] at hb'
      cases hb
      cases hb'
      exact haa
theorem fw_ls_nd {w : fw_W} {n i j : Nat} {p q : Nat × va_E} (hi : (fw_ls w n)[i]? = some p) (hj : (fw_ls w n)[j]? = some q) (h : p.1 = q.1) : i = j := by
  have hp := List.pairwise_iff_getElem.mp (fw_ls_pw w n)
  obtain ⟨hi1, hi2⟩ := List.getElem?_eq_some_iff.mp hi
  obtain ⟨hj1, hj2⟩ := List.getElem?_eq_some_iff.mp hj
  rcases Nat.lt_trichotomy i j with hl | hl | hl
  · have := hp i j hi1 hj1 hl
    rw [hi2, hj2] at this
    omega
  · exact hl
  · have := hp j i hj1 hi1 hl
    rw [hi2, hj2] at this
    omega
theorem fw_P.lt {D : va_G} {cl : List vw_C} {w : fw_W} {H : Heap} (hP : fw_P D cl w H) {a : Nat} {e : va_E} (h : w a = some e) : a < H.size := (hP a e h).lt
theorem fw_P.ls {D : va_G} {cl : List vw_C} {w : fw_W} {H : Heap} (hP : fw_P D cl w H) (n : Nat) : va_P D cl (fw_ls w n) H := fun _ q hk => hP q.1 q.2 (fw_ls_mem hk)
theorem fw_D.ls {A : Nat → Prop} {w : fw_W} (hD : fw_D A w) (n : Nat) : va_D A (fw_ls w n) := ⟨fun _ _ _ _ hi hj h => fw_ls_nd hi hj h, fun _ q hk => hD q.1 q.2 (fw_ls_mem hk)⟩
theorem fw_P.one {D : va_G} {cl : List vw_C} {w : fw_W} {H : Heap} (hP : fw_P D cl w H) {a : Nat} {e : va_E} (h : w a = some e) : va_P D cl [(a, e)] H := by
  intro k q hk
  have hz : k < 1 := (List.getElem?_eq_some_iff.mp hk).1
  rw [show k = 0 by omega] at hk
  cases hk
  exact hP a e h
theorem fw_P.kept {D : va_G} {cl : List vw_C} {w : fw_W} {H H1 : Heap} (hP : fw_P D cl w H) (hq : ∀ (a : Nat) (e : va_E), w a = some e → H1[a]? = H[a]?) : fw_P D cl w H1 := fun a e h => (hP a e h).kept (hq a e h)
theorem fw_D.up {A : Nat → Prop} {w : fw_W} {a : Nat} {e : va_E} (hD : fw_D A w) (h : A a) : fw_D A (fw_up w a e) := by
  intro b x hb
  by_cases q : b = a
  · rw [q]; exact h
  · rw [fw_up_ne q] at hb; exact hD b x hb
theorem fw_D.mono {A B : Nat → Prop} {w : fw_W} (hD : fw_D A w) (h : ∀ a, A a → B a) : fw_D B w := fun a e q => h a (hD a e q)
theorem fw_D.self (w : fw_W) (sz : Nat) : fw_D (fw_A w sz) w := fun _ e h => Or.inl ⟨e, h⟩
/-- back from a list in which one cell has been set -/
theorem fw_set {D : va_G} {cl : List vw_C} {w : fw_W} {H H1 : Heap} {k a : Nat} {e0 e : va_E} (hP : fw_P D cl w H) (hk : (fw_ls w H.size)[k]? = some (a, e0)) (h : va_P D cl ((fw_ls w H.size).set k (a, e)) H1) : fw_P D cl (fw_up w a e) H1 := by
  have hl : k < (fw_ls w H.size).length := (List.getElem?_eq_some_iff.mp hk).1
  intro b x hb
  by_cases q : b = a
  · subst q
    rw [fw_up_self] at hb
    cases hb
    exact h k (b, e) (by rw [List.getElem?_set_self hl])
  · rw [fw_up_ne q] at hb
    obtain ⟨j, hj⟩ := fw_ls_at hb (hP.lt hb)
    refine h j (b, x) ?_
    rw [List.getElem?_set_ne]
    · exact hj
    · intro z
      subst z
      rw [hk] at hj
      cases hj
      exact q rfl
/-- back from a list that has one cell more -/
theorem fw_push {D : va_G} {cl : List vw_C} {A : Nat → Prop} {w : fw_W} {H H1 : Heap} {q : Nat} {e : va_E} (hP : fw_P D cl w H) (h : va_P D cl (fw_ls w H.size ++ [(q, e)]) H1) (hD : va_D A (fw_ls w H.size ++ [(q, e)])) : fw_P D cl (fw_up w q e) H1 ∧ w q = none ∧ A q := by
  have hq : (fw_ls w H.size ++ [(q, e)])[(fw_ls w H.size).length]? = some (q, e) := by rw [List.getElem?_append_right (Nat.le_refl _), Nat.sub_self]; rfl
  refine ⟨?_, ?_, hD.2 _ _ hq⟩
  · intro b x hb
    by_cases z : b = q
    · subst z
      rw [fw_up_self] at hb
      cases hb
      exact h _ _ hq
    · rw [fw_up_ne z] at hb
      obtain ⟨j, hj⟩ := fw_ls_at hb (hP.lt hb)
      exact h j (b, x) (by rw [List.getElem?_append_left (List.getElem?_eq_some_iff.mp hj).1]; exact hj)
  · cases hw : w q with
    | none => rfl
    | some x =>
      obtain ⟨j, hj⟩ := fw_ls_at hw (hP.lt hw)
      have hl := (List.getElem?_eq_some_iff.mp hj).1
      have := hD.1 j _ (q, x) (q, e) (by rw [List.getElem?_append_left hl]; exact hj) hq rfl
      omega
section FWL
variable {p : Program} {l : Launch} {e : Env} {R : Room} {s : State} {m : MethodId} {args : Array Value} {below : List Frame} {meth : Method} {c : Code} {H : Heap} {locs : List Loc} {cells slots : Nat} {Q : State → Prop}
variable {cc : ByteArray} {pc : Nat} {ls : Array Slot} {rest : List Value} {D : va_G} {cl : List vw_C} {A : Nat → Prop} {a : Nat} {tys : List (ClassId × FieldType)} {w : fw_W} {H0 : Heap}
theorem fw_get (hexec : p.tables.exec = Jvm.exec) (hb : c.code = cc) {own ref C : String} {T : u_T} {N ci index : Nat} {Ts : List Cond} (hts : ∀ w ∈ Ts, w.before args s = true) (hin : ∀ w ∈ u_ws C T N, w ∈ Ts) (hown : s.vm.findClass own = some m.cls) (hK : va_K D cl tys s) (hP : fw_P D cl w H) {fs : List Value} (he : w a = some (.inr (ci, fs))) (hc : cl[ci]? = some (C, T, N)) (k : Nat) (hk : k < N) (hlink : (Cond.fieldLink own index ref (T k).2.1 (T k).2.2.1).before args s = true) (hsame : ∀ x, s.fieldFound? (T k).1 (T k).2.1 (T k).2.2.1 = some x → s.fieldFound? ref (T k).2.1 (T k).2.2.1 = some x) {v : Value} (hv : fs[k]? = some v) (hdg : decode cc pc = .ok (.getfield index, 3))
    (kk : W p l e R s m args below meth c H locs cells slots Q (F0 m (pc + 3) ls (v :: rest))) : W p l e R s m args below meth c H locs cells slots Q (F0 m pc ls (.ref a :: rest)) :=
  va_get hexec hb hts hin hown hK (hP.one he) 0 rfl hc k hk hlink hsame hv hdg kk
theorem fw_put (hexec : p.tables.exec = Jvm.exec) (hb : c.code = cc) {own ref C : String} {T : u_T} {N ci index : Nat} {Ts : List Cond} (hts : ∀ w ∈ Ts, w.before args s = true) (hin : ∀ w ∈ u_ws C T N, w ∈ Ts) (ty0 : Nat → FieldType) (hty : ∀ k, k < N → parseFieldDescriptor (T k).2.2.1 = some (ty0 k)) (hnm : ∀ a, a < N → ∀ b, b < N → a ≠ b → (T a).2.1 ≠ (T b).2.1) (hown : s.vm.findClass own = some m.cls) (hK : va_K D cl tys s) (hP : fw_P D cl w H) (hD : fw_D A w) (hS0 : va_S A H0 H locs) {fs : List Value} (he : w a = some (.inr (ci, fs))) (hc : cl[ci]? = some (C, T, N)) (k : Nat) (hk : k < N) (hlink : (Cond.fieldLink own index ref (T k).2.1 (T k).2.2.1).before args s = true) (hsame : ∀ x, s.fieldFound? (T k).1 (T k).2.1 (T k).2.2.1 = some x → s.fieldFound? ref (T k).2.1 (T k).2.2.1 = some x) (hfin : (T k).2.2.2 = false) {ty : FieldType} {v : Value} (hd : parseFieldDescriptor (T k).2.2.1 = some ty) (hn : narrow ty v = v) (hfit : fits ty v = true) (hl : k < fs.length)
    (hdg : decode cc pc = .ok (.putfield index, 3)) {w1 : fw_W} (hw1 : fw_up w a (.inr (ci, fs.set k v)) = w1) (kk : ∀ (H1 : Heap) (locs1 : List Loc), fw_P D cl w1 H1 → fw_D A w1 → va_S A H0 H1 locs1 → W p l e R s m args below meth c H1 locs1 cells slots Q (F0 m (pc + 3) ls rest)) : W p l e R s m args below meth c H locs cells slots Q (F0 m pc ls (v :: .ref a :: rest)) := by
  subst hw1
  obtain ⟨k0, hk0⟩ := fw_ls_at he (hP.lt he)
  exact va_put hexec hb hts hin ty0 hty hnm hown hK (hP.ls H.size) (hD.ls H.size) hS0 k0 hk0 hc k hk hlink hsame hfin hd hn hfit hl hdg fun H1 locs1 h1 _ h3 => kk H1 locs1 (fw_set hP hk0 h1) (hD.up (hD a _ he)) h3
theorem fw_putF (hexec : p.tables.exec = Jvm.exec) (hb : c.code = cc) {own ref C : String} {T : u_T} {N ci index : Nat} {Ts : List Cond} (hts : ∀ w ∈ Ts, w.before args s = true) (hin : ∀ w ∈ u_ws C T N, w ∈ Ts) (ty0 : Nat → FieldType) (hty : ∀ k, k < N → parseFieldDescriptor (T k).2.2.1 = some (ty0 k)) (hnm : ∀ a, a < N → ∀ b, b < N → a ≠ b → (T a).2.1 ≠ (T b).2.1) (hown : s.vm.findClass own = some m.cls) (hK : va_K D cl tys s) (hP : fw_P D cl w H) (hD : fw_D A w) (hS0 : va_S A H0 H locs) {fs : List Value} (he : w a = some (.inr (ci, fs))) (hc : cl[ci]? = some (C, T, N)) (k : Nat) (hk : k < N) (hlink : (Cond.fieldLink own index ref (T k).2.1 (T k).2.2.1).before args s = true) (hsame : ∀ x, s.fieldFound? (T k).1 (T k).2.1 (T k).2.2.1 = some x → s.fieldFound? ref (T k).2.1 (T k).2.2.1 = some x) (hfin : (T k).2.2.2 = true) (hin2 : meth.name = "<init>") (hdecl : (T k).1 = own) {ty : FieldType} {v : Value} (hd : parseFieldDescriptor (T k).2.2.1 = some ty) (hn : narrow ty v = v) (hfit : fits ty v = true) (hl : k < fs.length)
    (hdg : decode cc pc = .ok (.putfield index, 3)) {w1 : fw_W} (hw1 : fw_up w a (.inr (ci, fs.set k v)) = w1) (kk : ∀ (H1 : Heap) (locs1 : List Loc), fw_P D cl w1 H1 → fw_D A w1 → va_S A H0 H1 locs1 → W p l e R s m args below meth c H1 locs1 cells slots Q (F0 m (pc + 3) ls rest)) : W p l e R s m args below meth c H locs cells slots Q (F0 m pc ls (v :: .ref a :: rest)) := by
  subst hw1
  obtain ⟨k0, hk0⟩ := fw_ls_at he (hP.lt he)
  exact va_putF hexec hb hts hin ty0 hty hnm hown hK (hP.ls H.size) (hD.ls H.size) hS0 k0 hk0 hc k hk hlink hsame hfin hin2 hdecl hd hn hfit hl hdg fun H1 locs1 h1 _ h3 => kk H1 locs1 (fw_set hP hk0 h1) (hD.up (hD a _ he)) h3
theorem fw_iald (hexec : p.tables.exec = Jvm.exec) (hb : c.code = cc) (hK : va_K D cl tys s) (hP : fw_P D cl w H) (t0 : Nat) {cA : ClassId} {n : Nat} {f : Nat → Int32} (ha : w a = some (.inl (cA, n, .inl f))) (ht : tys[t0]? = some (cA, .int)) {i : Int32} (hin : vp_in i n) (hdg : decode cc pc = .ok (.iaload, 1))
    (kk : W p l e R s m args below meth c H locs cells slots Q (F0 m (pc + 1) ls (.int (f i.toNatClampNeg) :: rest))) : W p l e R s m args below meth c H locs cells slots Q (F0 m pc ls (.int i :: .ref a :: rest)) :=
  va_iald hexec hb hK (hP.one ha) 0 t0 rfl ht hin hdg kk
theorem fw_alen (hexec : p.tables.exec = Jvm.exec) (hb : c.code = cc) (hK : va_K D cl tys s) (hP : fw_P D cl w H) (t0 : Nat) {cA : ClassId} {x : vp_A} (ha : w a = some (.inl (cA, x))) {ty : FieldType} (ht : tys[t0]? = some (cA, ty)) {v : Int32} (hv : Int32.ofNat x.1 = v) (hdg : decode cc pc = .ok (.arraylength, 1))
    (kk : W p l e R s m args below meth c H locs cells slots Q (F0 m (pc + 1) ls (.int v :: rest))) : W p l e R s m args below meth c H locs cells slots Q (F0 m pc ls (.ref a :: rest)) :=
  va_alen hexec hb hK (hP.one ha) 0 t0 rfl ht hv hdg kk
theorem fw_aldq (hexec : p.tables.exec = Jvm.exec) (hb : c.code = cc) (hK : va_K D cl tys s) (hP : fw_P D cl w H) (t0 : Nat) {cA : ClassId} {C : String} {n : Nat} {f : Nat → Option Nat} (ha : w a = some (.inl (cA, n, .inr (.inr (.inr (.inr f)))))) (ht : tys[t0]? = some (cA, .object C)) {i : Int32} (hin : vp_in i n) (hdg : decode cc pc = .ok (.aaload, 1))
    (kk : W p l e R s m args below meth c H locs cells slots Q (F0 m (pc + 1) ls (va_rf (f i.toNatClampNeg) :: rest))) : W p l e R s m args below meth c H locs cells slots Q (F0 m pc ls (.int i :: .ref a :: rest)) :=
  va_aldq hexec hb hK (hP.one ha) 0 t0 rfl ht hin hdg kk
theorem fw_iast (hexec : p.tables.exec = Jvm.exec) (hb : c.code = cc) (hK : va_K D cl tys s) (hP : fw_P D cl w H) (hD : fw_D A w) (hS : va_S A H0 H locs) (t0 : Nat) {cA : ClassId} {n : Nat} {f : Nat → Int32} (ha : w a = some (.inl (cA, n, .inl f))) (ht : tys[t0]? = some (cA, .int)) {i : Int32} {x : Int32} (hin : vp_in i n) (hdg : decode cc pc = .ok (.iastore, 1))
    {w1 : fw_W} (hw1 : fw_up w a (.inl (cA, n, .inl (upd f i.toNatClampNeg x))) = w1) (kk : ∀ (H1 : Heap) (locs1 : List Loc), fw_P D cl w1 H1 → fw_D A w1 → va_S A H0 H1 locs1 → W p l e R s m args below meth c H1 locs1 cells slots Q (F0 m (pc + 1) ls rest)) : W p l e R s m args below meth c H locs cells slots Q (F0 m pc ls (.int x :: .int i :: .ref a :: rest)) := by
  subst hw1
  obtain ⟨k0, hk0⟩ := fw_ls_at ha (hP.lt ha)
  exact va_iast hexec hb hK (hP.ls H.size) (hD.ls H.size) hS k0 t0 hk0 ht hin hdg fun H1 locs1 h1 _ h3 => kk H1 locs1 (fw_set hP hk0 h1) (hD.up (hD a _ ha)) h3
theorem fw_astq (hexec : p.tables.exec = Jvm.exec) (hb : c.code = cc) (hK : va_K D cl tys s) (hP : fw_P D cl w H) (hD : fw_D A w) (hS : va_S A H0 H locs) (t0 ci : Nat) {cA : ClassId} {r : vw_C} {n v : Nat} {vs : List Value} {f : Nat → Option Nat} (ha : w a = some (.inl (cA, n, .inr (.inr (.inr (.inr f)))))) (ht : tys[t0]? = some (cA, .object r.1)) (hv : w v = some (.inr (ci, vs))) (hc : cl[ci]? = some r) {i : Int32} (hin : vp_in i n) (hdg : decode cc pc = .ok (.aastore, 1))
    {w1 : fw_W} (hw1 : fw_up w a (.inl (cA, n, .inr (.inr (.inr (.inr (va_up f i.toNatClampNeg (some v))))))) = w1) (kk : ∀ (H1 : Heap) (locs1 : List Loc), fw_P D cl w1 H1 → fw_D A w1 → va_S A H0 H1 locs1 → W p l e R s m args below meth c H1 locs1 cells slots Q (F0 m (pc + 1) ls rest)) : W p l e R s m args below meth c H locs cells slots Q (F0 m pc ls (.ref v :: .int i :: .ref a :: rest)) := by
  subst hw1
  obtain ⟨k0, hk0⟩ := fw_ls_at ha (hP.lt ha)
  obtain ⟨k1, hk1⟩ := fw_ls_at hv (hP.lt hv)
  exact va_astq hexec hb hK (hP.ls H.size) (hD.ls H.size) hS k0 t0 k1 ci hk0 ht hk1 hc hin hdg fun H1 locs1 h1 _ h3 => kk H1 locs1 (fw_set hP hk0 h1) (hD.up (hD a _ ha)) h3
theorem fw_astN (hexec : p.tables.exec = Jvm.exec) (hb : c.code = cc) (hK : va_K D cl tys s) (hP : fw_P D cl w H) (hD : fw_D A w) (hS : va_S A H0 H locs) (t0 : Nat) {cA : ClassId} {C : String} {n : Nat} {f : Nat → Option Nat} (ha : w a = some (.inl (cA, n, .inr (.inr (.inr (.inr f)))))) (ht : tys[t0]? = some (cA, .object C)) {i : Int32} (hin : vp_in i n) (hdg : decode cc pc = .ok (.aastore, 1))
    {w1 : fw_W} (hw1 : fw_up w a (.inl (cA, n, .inr (.inr (.inr (.inr (va_up f i.toNatClampNeg none)))))) = w1) (kk : ∀ (H1 : Heap) (locs1 : List Loc), fw_P D cl w1 H1 → fw_D A w1 → va_S A H0 H1 locs1 → W p l e R s m args below meth c H1 locs1 cells slots Q (F0 m (pc + 1) ls rest)) : W p l e R s m args below meth c H locs cells slots Q (F0 m pc ls (.null :: .int i :: .ref a :: rest)) := by
  subst hw1
  obtain ⟨k0, hk0⟩ := fw_ls_at ha (hP.lt ha)
  exact va_astqN (C := C) hexec hb hK (hP.ls H.size) (hD.ls H.size) hS k0 t0 hk0 ht hin hdg fun H1 locs1 h1 _ h3 => kk H1 locs1 (fw_set hP hk0 h1) (hD.up (hD a _ ha)) h3
theorem fw_new {c0 : Code} (hexec : p.tables.exec = Jvm.exec) (hb : c0.code = cc) {own C : String} {T : u_T} {N ci index : Nat} {Ts : List Cond} (hts : ∀ w ∈ Ts, w.before args s = true) (hin : ∀ w ∈ u_ws C T N, w ∈ Ts) (ty : Nat → FieldType) (hty : ∀ k, k < N → parseFieldDescriptor (T k).2.2.1 = some (ty k)) (hown : s.vm.findClass own = some m.cls) (hcl : (Cond.classLink own index C).before args s = true) (hinst : (Cond.instantiable C N).before args s = true) (hini : (Cond.initialized C).before args s = true)
    (hK : va_K D cl tys s) (hP : fw_P D cl w H) (hD : fw_D A w) (hS : va_S A H0 H locs) (hA : ∀ q, H0.size ≤ q → A q) (hc : cl[ci]? = some (C, T, N)) {fs : List Value} (hfs : ∀ j, j < N → defaultValue (ty j) = vp_V fs j) (hcells : cells + 1 ≤ R.cells) (hslots : slots + N ≤ R.slots) (hdg : decode cc pc = .ok (.new index, 3))
    (kk : ∀ (q : Nat) (H1 : Heap), w q = none → fw_P D cl (fw_up w q (.inr (ci, fs))) H1 → fw_D A (fw_up w q (.inr (ci, fs))) → va_S A H0 H1 locs →
      W p l e R s m args below meth c0 H1 locs (cells + 1) (slots + N) Q (F0 m (pc + 3) ls (.ref q :: rest))) : W p l e R s m args below meth c0 H locs cells slots Q (F0 m pc ls rest) :=
  va_new hexec hb hts hin ty hty hown hcl hinst hini hK (hP.ls H.size) (hD.ls H.size) hS hA hc hfs hcells hslots hdg fun q H1 h1 h2 h3 => kk q H1 (fw_push hP h1 h2).2.1 (fw_push hP h1 h2).1 (hD.up (fw_push hP h1 h2).2.2) h3
/-- what an array is made of follows from its name -/
theorem fw_cA {tys : List (ClassId × FieldType)} {s : State} {ty : FieldType} {cA cB : ClassId} {t0 : Nat} (hK : va_K D cl (tys ++ [(cB, ty)]) s) (ht : tys[t0]? = some (cA, ty)) : cB = cA := by
  have h1 : va_RA s cA ty := (hK.2 t0 (cA, ty) (by rw [List.getElem?_append_left (List.getElem?_eq_some_iff.mp ht).1]; exact ht)).2
  have h2 : va_RA s cB ty := (hK.2 tys.length (cB, ty) (by rw [List.getElem?_append_right (Nat.le_refl _), Nat.sub_self]; rfl)).2
  cases ty with
  | object C =>
    obtain ⟨_, _, _, _, _, g1⟩ := h1
    obtain ⟨_, _, _, _, _, g2⟩ := h2
    exact Option.some.inj (g2.symm.trans g1)
  | _ => exact Option.some.inj (h2.symm.trans h1)
theorem fw_newa (hexec : p.tables.exec = Jvm.exec) (hb : c.code = cc) {atype : ArrayType} (harr : (Cond.arrayClass (newarray.typeOf atype)).before args s = true) {ty : FieldType} (hty : newarray.typeOf atype = ty) (hK : va_K D cl tys s) (hP : fw_P D cl w H) (hD : fw_D A w) (hS : va_S A H0 H locs) (hA : ∀ q, H0.size ≤ q → A q) {t0 : Nat} {cA : ClassId} (ht : tys[t0]? = some (cA, ty))
    {n : Int32} {N' : Nat} {a0 : vp_A} (ha : ∀ cA : ClassId, vp_cell cA a0 = arrV cA N' (fun _ => defaultValue ty)) (hn : ¬ n < 0) (hN : n.toNatClampNeg = N') (hbytes : N' * componentBytes ty ≤ 536870912) (hcells : cells + 1 ≤ R.cells) (hslots : slots + N' ≤ R.slots) (hdg : decode cc pc = .ok (.newarray atype, 2))
    (kk : ∀ (q : Nat) (H1 : Heap), w q = none → fw_P D cl (fw_up w q (.inl (cA, a0))) H1 → fw_D A (fw_up w q (.inl (cA, a0))) → va_S A H0 H1 locs →
      W p l e R s m args below meth c H1 locs (cells + 1) (slots + N') Q (F0 m (pc + 2) ls (.ref q :: rest))) : W p l e R s m args below meth c H locs cells slots Q (F0 m pc ls (.int n :: rest)) :=
  va_newa hexec hb harr hty hK (hP.ls H.size) (hD.ls H.size) hS hA ha hn hN hbytes hcells hslots hdg fun q cB H1 h0 h1 h2 h3 => by
    have := fw_cA h0 ht
    subst this
    exact kk q H1 (fw_push hP h1 h2).2.1 (fw_push hP h1 h2).1 (hD.up (fw_push hP h1 h2).2.2) h3
theorem fw_newq (hexec : p.tables.exec = Jvm.exec) (hb : c.code = cc) {own C : String} {index : Nat} (hown : s.vm.findClass own = some m.cls) (hclink : (Cond.classLink own index C).before args s = true) (hover : va_AO C s) (hK : va_K D cl tys s) (hP : fw_P D cl w H) (hD : fw_D A w) (hS : va_S A H0 H locs) (hA : ∀ q, H0.size ≤ q → A q) {t0 : Nat} {cA : ClassId} (ht : tys[t0]? = some (cA, .object C))
    {n : Int32} {N' : Nat} (hn : ¬ n < 0) (hN : n.toNatClampNeg = N') (hbytes : N' * 4 ≤ 536870912) (hcells : cells + 1 ≤ R.cells) (hslots : slots + N' ≤ R.slots) (hdg : decode cc pc = .ok (.anewarray index, 3))
    (kk : ∀ (q : Nat) (H1 : Heap), w q = none → fw_P D cl (fw_up w q (.inl (cA, N', .inr (.inr (.inr (.inr (fun _ => none))))))) H1 → fw_D A (fw_up w q (.inl (cA, N', .inr (.inr (.inr (.inr (fun _ => none))))))) → va_S A H0 H1 locs →
      W p l e R s m args below meth c H1 locs (cells + 1) (slots + N') Q (F0 m (pc + 3) ls (.ref q :: rest))) : W p l e R s m args below meth c H locs cells slots Q (F0 m pc ls (.int n :: rest)) :=
  va_newq hexec hb hown hclink hover hK (hP.ls H.size) (hD.ls H.size) hS hA hn hN hbytes hcells hslots hdg fun q cB H1 h0 h1 h2 h3 => by
    have := fw_cA h0 ht
    subst this
    exact kk q H1 (fw_push hP h1 h2).2.1 (fw_push hP h1 h2).1 (hD.up (fw_push hP h1 h2).2.2) h3
end FWL
/-! contracts over functional worlds, and their calls -/
def fw_Pc (D : va_G) (cl : List vw_C) (tys : List (ClassId × FieldType)) (w : fw_W) (sz : Nat) (av : List Value) : Array Value → State → Prop := va_Pc av (fun U => U.heap.size = sz ∧ fw_P D cl w U.heap ∧ va_K D cl tys U)
def fw_B (D : va_G) (cl : List vw_C) (tys : List (ClassId × FieldType)) (A : Nat → Prop) (u : fw_W) (t : State) : Prop := fw_P D cl u t.heap ∧ va_K D cl tys t ∧ fw_D A u
/-- a method that answers an int (or a boolean): 'post answer world' -/
def fw_Mi (l : Launch) (y : MethodName) (ws : List Cond) (rm : Room) (mc ms : Nat) (D : va_G) (cl : List vw_C) (tys : List (ClassId × FieldType)) (w : fw_W) (av : List Value) (post : Int32 → fw_W → Prop) : Prop :=
  ∀ sz : Nat, Met l y ws rm (fw_Pc D cl tys w sz av) (va_Qi post (fw_B D cl tys (fw_A w sz)) (fw_A w sz)) mc ms (fw_A w sz)
def fw_Mv (l : Launch) (y : MethodName) (ws : List Cond) (rm : Room) (mc ms : Nat) (D : va_G) (cl : List vw_C) (tys : List (ClassId × FieldType)) (w : fw_W) (av : List Value) (post : fw_W → Prop) : Prop :=
  ∀ sz : Nat, Met l y ws rm (fw_Pc D cl tys w sz av) (va_Qv post (fw_B D cl tys (fw_A w sz)) (fw_A w sz)) mc ms (fw_A w sz)
def fw_Mq (l : Launch) (y : MethodName) (ws : List Cond) (rm : Room) (mc ms : Nat) (D : va_G) (cl : List vw_C) (tys : List (ClassId × FieldType)) (w : fw_W) (av : List Value) (post : Option Nat → fw_W → Prop) : Prop :=
  ∀ sz : Nat, Met l y ws rm (fw_Pc D cl tys w sz av) (va_Qq post (fw_B D cl tys (fw_A w sz)) (fw_A w sz)) mc ms (fw_A w sz)
theorem fw_blind {D : va_G} {cl : List vw_C} {tys : List (ClassId × FieldType)} {w : fw_W} {sz : Nat} {av : List Value} : FrameBlind (fw_Pc D cl tys w sz av) := fun a U g mk q => by
  obtain ⟨q0, q1, qP, qK⟩ := q
  exact ⟨q0, q1, qP, va_K.moved (u := U) (U := U.calling g mk a) (Vm.Alike.refl U.vm) qK⟩
theorem fw_recv {s : State} {H : Heap} {D : va_G} {cl : List vw_C} {a ci : Nat} {q : vw_C} {fs : List Value} {w : fw_W} {tys : List (ClassId × FieldType)} (hK : va_K D cl tys s) (hP : fw_P D cl w H) (hc : cl[ci]? = some q) (he : w a = some (.inr (ci, fs))) : ∃ cell : Cell, H[a]? = some cell ∧ cell.vm.isStatics = false ∧ s.vm.findClass q.1 = some cell.cls :=
  va_recv hK (hP.one he) hc (q0 := 0) rfl
theorem fw_preS {s : State} {H : Heap} {D : va_G} {cl : List vw_C} {tys : List (ClassId × FieldType)} {w : fw_W} {As : List Value} (hK : va_K D cl tys s) (hP : fw_P D cl w H) : PreS s H (fw_Pc D cl tys w H.size As) As :=
  ⟨fw_blind, fun U hU hW => ⟨rfl, by rw [hU], by rw [hU]; exact hP, va_K.moved hW.alike hK⟩⟩
theorem fw_preV {s : State} {H : Heap} {D : va_G} {cl : List vw_C} {tys : List (ClassId × FieldType)} {w : fw_W} {b ci : Nat} {q : vw_C} {fs As : List Value} (hK : va_K D cl tys s) (hP : fw_P D cl w H) (hc : cl[ci]? = some q) (he : w b = some (.inr (ci, fs))) : PreV s H q.1 b (fw_Pc D cl tys w H.size (.ref b :: As)) As :=
  ⟨fw_blind, fw_recv hK hP hc he, fun U hU hW => ⟨rfl, by rw [hU], by rw [hU]; exact hP, va_K.moved hW.alike hK⟩⟩
section FWC
variable {p : Program} {l : Launch} {e : Env} {R : Room} {s : State} {m : MethodId} {args : Array Value} {below : List Frame} {meth : Method} {c : Code} {H : Heap} {locs : List Loc} {cells slots : Nat} {Q : State → Prop}
variable {pc : Nat} {ls : Array Slot} {rest st0 : List Value} {av : Array Value} {A : Nat → Prop} {H0 : Heap} {mc ms : Nat} {D : va_G} {cl : List vw_C} {tys : List (ClassId × FieldType)} {w : fw_W}
theorem fw_inA (hD : fw_D A w) (hS : va_S A H0 H locs) (hA : ∀ q, H0.size ≤ q → A q) : ∀ q, fw_A w H.size q → A q := by
  intro q h
  rcases h with ⟨x, h⟩ | h
  · exact hD q x h
  · exact hA q (Nat.le_trans hS.1 h)
/-- what a second world, apart from the callee's, is behind the call -/
theorem fw_beside {H1 : Heap} {w1 w2 : fw_W} (hP2 : fw_P D cl w2 H) (hdis : ∀ (a : Nat) (x y : va_E), w a = some x → w2 a = some y → False) (hk : ∀ q : Nat, q < H.size → ¬ fw_A w H.size q → H1[q]? = H[q]?) (hD1 : fw_D (fw_A w H.size) w1) : fw_P D cl w2 H1 ∧ ∀ (a : Nat) (x y : va_E), w1 a = some x → w2 a = some y → False := by
  have hn : ∀ (a : Nat) (y : va_E), w2 a = some y → ¬ fw_A w H.size a := by
    intro a y hy h
    rcases h with ⟨x, h⟩ | h
    · exact hdis a x y h hy
    · have := hP2.lt hy
      omega
  exact ⟨hP2.kept (fun a y hy => hk a (hP2.lt hy) (hn a y hy)), fun a x y hx hy => hn a y hy (hD1 a x hx)⟩
theorem fw_calli {post : Int32 → fw_W → Prop} (hr : va_Run p l e R s m args below meth c H locs cells slots mc ms (F0 m pc ls st0) rest (va_Qi post (fw_B D cl tys (fw_A w H.size)) (fw_A w H.size) av) (fw_A w H.size)) (hD : fw_D A w) (hS : va_S A H0 H locs) (hA : ∀ q, H0.size ≤ q → A q)
    (kk : ∀ (r : Int32) (w1 : fw_W) (H1 : Heap) (locs1 : List Loc), post r w1 → fw_P D cl w1 H1 → fw_D A w1 → va_S A H0 H1 locs1 → W p l e R s m args below meth c H1 locs1 (cells + mc) (slots + ms) Q (F0 m (pc + 3) ls (.int r :: rest))) : W p l e R s m args below meth c H locs cells slots Q (F0 m pc ls st0) :=
  va_calli hr hS (fun q _ h => fw_inA hD hS hA q h) (fw_inA hD hS hA) fun r u t H1 locs1 ht _ hp hB _ _ hS1 => kk r u H1 locs1 hp (ht ▸ hB.1) (hB.2.2.mono (fw_inA hD hS hA)) hS1
theorem fw_callv {post : fw_W → Prop} (hr : va_Run p l e R s m args below meth c H locs cells slots mc ms (F0 m pc ls st0) rest (va_Qv post (fw_B D cl tys (fw_A w H.size)) (fw_A w H.size) av) (fw_A w H.size)) (hD : fw_D A w) (hS : va_S A H0 H locs) (hA : ∀ q, H0.size ≤ q → A q)
    (kk : ∀ (w1 : fw_W) (H1 : Heap) (locs1 : List Loc), post w1 → fw_P D cl w1 H1 → fw_D A w1 → va_S A H0 H1 locs1 → W p l e R s m args below meth c H1 locs1 (cells + mc) (slots + ms) Q (F0 m (pc + 3) ls rest)) : W p l e R s m args below meth c H locs cells slots Q (F0 m pc ls st0) :=
  va_callv hr hS (fun q _ h => fw_inA hD hS hA q h) (fw_inA hD hS hA) fun u t H1 locs1 ht _ hp hB _ _ hS1 => kk u H1 locs1 hp (ht ▸ hB.1) (hB.2.2.mono (fw_inA hD hS hA)) hS1
theorem fw_callq {post : Option Nat → fw_W → Prop} (hr : va_Run p l e R s m args below meth c H locs cells slots mc ms (F0 m pc ls st0) rest (va_Qq post (fw_B D cl tys (fw_A w H.size)) (fw_A w H.size) av) (fw_A w H.size)) (hD : fw_D A w) (hS : va_S A H0 H locs) (hA : ∀ q, H0.size ≤ q → A q)
    (kk : ∀ (r : Option Nat) (w1 : fw_W) (H1 : Heap) (locs1 : List Loc), post r w1 → fw_P D cl w1 H1 → fw_D A w1 → va_S A H0 H1 locs1 → W p l e R s m args below meth c H1 locs1 (cells + mc) (slots + ms) Q (F0 m (pc + 3) ls (va_rf r :: rest))) : W p l e R s m args below meth c H locs cells slots Q (F0 m pc ls st0) :=
  va_callq hr hS (fun q _ h => fw_inA hD hS hA q h) (fw_inA hD hS hA) fun r u t H1 locs1 ht _ hp hB _ _ hS1 => kk r u H1 locs1 hp (ht ▸ hB.1) (hB.2.2.mono (fw_inA hD hS hA)) hS1
/-- the same with a second world beside the callee's -/
theorem fw_calli2 {post : Int32 → fw_W → Prop} {w2 : fw_W} (hr : va_Run p l e R s m args below meth c H locs cells slots mc ms (F0 m pc ls st0) rest (va_Qi post (fw_B D cl tys (fw_A w H.size)) (fw_A w H.size) av) (fw_A w H.size)) (hD : fw_D A w) (hS : va_S A H0 H locs) (hA : ∀ q, H0.size ≤ q → A q) (hP2 : fw_P D cl w2 H) (hdis : ∀ (a : Nat) (x y : va_E), w a = some x → w2 a = some y → False)
    (kk : ∀ (r : Int32) (w1 : fw_W) (H1 : Heap) (locs1 : List Loc), post r w1 → fw_P D cl w1 H1 → fw_D A w1 → va_S A H0 H1 locs1 → fw_P D cl w2 H1 → (∀ (a : Nat) (x y : va_E), w1 a = some x → w2 a = some y → False) → W p l e R s m args below meth c H1 locs1 (cells + mc) (slots + ms) Q (F0 m (pc + 3) ls (.int r :: rest))) : W p l e R s m args below meth c H locs cells slots Q (F0 m pc ls st0) :=
  va_calli hr hS (fun q _ h => fw_inA hD hS hA q h) (fw_inA hD hS hA) fun r u t H1 locs1 ht _ hp hB _ hk hS1 => kk r u H1 locs1 hp (ht ▸ hB.1) (hB.2.2.mono (fw_inA hD hS hA)) hS1 (fw_beside hP2 hdis hk hB.2.2).1 (fw_beside hP2 hdis hk hB.2.2).2
theorem fw_callv2 {post : fw_W → Prop} {w2 : fw_W} (hr : va_Run p l e R s m args below meth c H locs cells slots mc ms (F0 m pc ls st0) rest (va_Qv post (fw_B D cl tys (fw_A w H.size)) (fw_A w H.size) av) (fw_A w H.size)) (hD : fw_D A w) (hS : va_S A H0 H locs) (hA : ∀ q, H0.size ≤ q → A q) (hP2 : fw_P D cl w2 H) (hdis : ∀ (a : Nat) (x y : va_E), w a = some x → w2 a = some y → False)
    (kk : ∀ (w1 : fw_W) (H1 : Heap) (locs1 : List Loc), post w1 → fw_P D cl w1 H1 → fw_D A w1 → va_S A H0 H1 locs1 → fw_P D cl w2 H1 → (∀ (a : Nat) (x y : va_E), w1 a = some x → w2 a = some y → False) → W p l e R s m args below meth c H1 locs1 (cells + mc) (slots + ms) Q (F0 m (pc + 3) ls rest)) : W p l e R s m args below meth c H locs cells slots Q (F0 m pc ls st0) :=
  va_callv hr hS (fun q _ h => fw_inA hD hS hA q h) (fw_inA hD hS hA) fun u t H1 locs1 ht _ hp hB _ hk hS1 => kk u H1 locs1 hp (ht ▸ hB.1) (hB.2.2.mono (fw_inA hD hS hA)) hS1 (fw_beside hP2 hdis hk hB.2.2).1 (fw_beside hP2 hdis hk hB.2.2).2
end FWC
section FWR
variable {p : Program} {l : Launch} {e : Env} {R : Room} {s : State} {m : MethodId} {args : Array Value} {below : List Frame} {meth : Method} {c : Code} {H : Heap} {locs : List Loc} {cells slots : Nat}
variable {cc : ByteArray} {pc : Nat} {ls : Array Slot} {D : va_G} {cl : List vw_C} {tys : List (ClassId × FieldType)} {w w1 : fw_W} {A : Nat → Prop}
/-- the ends of a method with such a contract -/
theorem fw_iret {post : Int32 → fw_W → Prop} {v : Int32} (hexec : p.tables.exec = Jvm.exec) (hb : c.code = cc) (hr : meth.sig.returnType = some .int) (hlocks : meth.locks = false) (hK : va_K D cl tys s) (hP : fw_P D cl w1 H) (hD : fw_D A w1) (hS : va_S A s.heap H locs) (hdg : decode cc pc = .ok (.ireturn, 1)) (hp : post v w1) : W p l e R s m args below meth c H locs cells slots (MQ below (va_Qi post (fw_B D cl tys A) A) args s cells slots A) (F0 m pc ls [.int v]) :=
  W.iret (v := v) hexec hb hr (fun t ht hW => ⟨⟨v, w1, rfl, hp, by rw [ht]; exact hP, va_K.moved hW.alike hK, hD⟩, hS.F ht⟩) hS.2.2 hdg hlocks
theorem fw_zret {post : Int32 → fw_W → Prop} {v : Int32} (hexec : p.tables.exec = Jvm.exec) (hb : c.code = cc) (hr : meth.sig.returnType = some .boolean) (hn : v = 0 ∨ v = 1) (hlocks : meth.locks = false) (hK : va_K D cl tys s) (hP : fw_P D cl w1 H) (hD : fw_D A w1) (hS : va_S A s.heap H locs) (hdg : decode cc pc = .ok (.ireturn, 1)) (hp : post v w1) : W p l e R s m args below meth c H locs cells slots (MQ below (va_Qi post (fw_B D cl tys A) A) args s cells slots A) (F0 m pc ls [.int v]) :=
  W.zret (v := v) (ty := .boolean) hexec hb hr (by rcases hn with h | h <;> (subst h; rfl)) (fun t ht hW => ⟨⟨v, w1, rfl, hp, by rw [ht]; exact hP, va_K.moved hW.alike hK, hD⟩, hS.F ht⟩) hS.2.2 hdg hlocks
theorem fw_vret {post : fw_W → Prop} (hexec : p.tables.exec = Jvm.exec) (hb : c.code = cc) (hr : meth.sig.returnType = none) (hlocks : meth.locks = false) (hK : va_K D cl tys s) (hP : fw_P D cl w1 H) (hD : fw_D A w1) (hS : va_S A s.heap H locs) (hdg : decode cc pc = .ok (.return_, 1)) (hp : post w1) : W p l e R s m args below meth c H locs cells slots (MQ below (va_Qv post (fw_B D cl tys A) A) args s cells slots A) (F0 m pc ls []) :=
  W.vret hexec hb hr (fun t ht hW => ⟨⟨w1, rfl, hp, by rw [ht]; exact hP, va_K.moved hW.alike hK, hD⟩, hS.F ht⟩) hS.2.2 hdg hlocks
theorem fw_aret {post : Option Nat → fw_W → Prop} {r : Option Nat} {C : String} (hexec : p.tables.exec = Jvm.exec) (hb : c.code = cc) (hr : meth.sig.returnType = some (.object C)) (hlocks : meth.locks = false) (hK : va_K D cl tys s) (hP : fw_P D cl w1 H) (hD : fw_D A w1) (hS : va_S A s.heap H locs) (hdg : decode cc pc = .ok (.areturn, 1)) (hp : post r w1) : W p l e R s m args below meth c H locs cells slots (MQ below (va_Qq post (fw_B D cl tys A) A) args s cells slots A) (F0 m pc ls [va_rf r]) :=
  W.aret (v := va_rf r) (rt := .object C) hexec hb hr (Or.inl ⟨C, rfl⟩) (va_rf_or r) (fun t ht hW => ⟨⟨r, w1, rfl, hp, by rw [ht]; exact hP, va_K.moved hW.alike hK, hD⟩, hS.F ht⟩) hS.2.2 hdg hlocks
end FWR
/-- a contract's beginning: one row instead of fifteen. Qf: the post, as a function of the cells that may change -/
theorem fw_of {l : Launch} {y : MethodName} {ws ws' : List Cond} {rm : Room} {mc ms : Nat} {D : va_G} {cl : List vw_C} {tys : List (ClassId × FieldType)} {w : fw_W} {av : List Value} {Qf : (Nat → Prop) → Array Value → State → Outcome → State → Prop} {cc : ByteArray} {maxL sz : Nat} {ret : Option FieldType}
    (hy : plainName y.cls = true) (hw : ws = Cond.code y cc maxL ret :: ws') (hm : (lg_sl av).length ≤ maxL)
    (body : ∀ (p : Program) (e : Env) (s : State) (m : MethodId) (args : Array Value) (below : List Frame) (meth : Method) (c : Code) (A : Nat → Prop) (ls : Array Slot), p.tables.exec = Jvm.exec → c.code = cc → c.maxLocals = maxL → meth.sig.returnType = ret → meth.locks = false → meth.name = y.name → (∀ w ∈ ws, w.before args s = true) → s.vm.findClass y.cls = some m.cls → va_K D cl tys s → fw_P D cl w s.heap → fw_D A w → (∀ q : Nat, s.heap.size ≤ q → A q) → va_S A s.heap s.heap [] → lv_has ls maxL (lv_args 0 av) →
      W p l e rm s m args below meth c s.heap [] 0 0 (MQ below (Qf A) args s mc ms A) (F0 m 0 ls [])) : Met l y ws rm (fw_Pc D cl tys w sz av) (Qf (fw_A w sz)) mc ms (fw_A w sz) := by
  refine Met.ofW (cc := cc) (maxL := maxL) (ret := ret) hy hw ?_
  intro p e s m args below meth c s₁ B hml hv
  obtain ⟨rfl, hsz, hP, hK⟩ := hv
  subst hsz
  rw [lg_entry_eq]
  exact body p e s m _ below meth c (fw_A w s.heap.size) _ B.exec B.bytes hml B.returns B.notSynchronized (name_of_methodNamed B.named B.method).1 (atoms_spec (ws := ws) B.pre) (findClass_of_methodNamed B.named) hK hP (fw_D.self w _) (fun q h => Or.inr h) va_S.rf (lv_entry av hm)
section FWO
variable {l : Launch} {y : MethodName} {ws ws' : List Cond} {rm : Room} {mc ms : Nat} {D : va_G} {cl : List vw_C} {tys : List (ClassId × FieldType)} {w : fw_W} {av : List Value} {cc : ByteArray} {maxL : Nat} {ret : Option FieldType}
theorem fw_ofi {post : Int32 → fw_W → Prop} (hy : plainName y.cls = true) (hw : ws = Cond.code y cc maxL ret :: ws') (hm : (lg_sl av).length ≤ maxL)
    (body : ∀ (p : Program) (e : Env) (s : State) (m : MethodId) (args : Array Value) (below : List Frame) (meth : Method) (c : Code) (A : Nat → Prop) (ls : Array Slot), p.tables.exec = Jvm.exec → c.code = cc → c.maxLocals = maxL → meth.sig.returnType = ret → meth.locks = false → meth.name = y.name → (∀ w ∈ ws, w.before args s = true) → s.vm.findClass y.cls = some m.cls → va_K D cl tys s → fw_P D cl w s.heap → fw_D A w → (∀ q : Nat, s.heap.size ≤ q → A q) → va_S A s.heap s.heap [] → lv_has ls maxL (lv_args 0 av) →
      W p l e rm s m args below meth c s.heap [] 0 0 (MQ below (va_Qi post (fw_B D cl tys A) A) args s mc ms A) (F0 m 0 ls [])) : fw_Mi l y ws rm mc ms D cl tys w av post :=
  fun _ => fw_of (Qf := fun A => va_Qi post (fw_B D cl tys A) A) hy hw hm body
theorem fw_ofv {post : fw_W → Prop} (hy : plainName y.cls = true) (hw : ws = Cond.code y cc maxL ret :: ws') (hm : (lg_sl av).length ≤ maxL)
    (body : ∀ (p : Program) (e : Env) (s : State) (m : MethodId) (args : Array Value) (below : List Frame) (meth : Method) (c : Code) (A : Nat → Prop) (ls : Array Slot), p.tables.exec = Jvm.exec → c.code = cc → c.maxLocals = maxL → meth.sig.returnType = ret → meth.locks = false → meth.name = y.name → (∀ w ∈ ws, w.before args s = true) → s.vm.findClass y.cls = some m.cls → va_K D cl tys s → fw_P D cl w s.heap → fw_D A w → (∀ q : Nat, s.heap.size ≤ q → A q) → va_S A s.heap s.heap [] → lv_has ls maxL (lv_args 0 av) →
      W p l e rm s m args below meth c s.heap [] 0 0 (MQ below (va_Qv post (fw_B D cl tys A) A) args s mc ms A) (F0 m 0 ls [])) : fw_Mv l y ws rm mc ms D cl tys w av post :=
  fun _ => fw_of (Qf := fun A => va_Qv post (fw_B D cl tys A) A) hy hw hm body
theorem fw_ofq {post : Option Nat → fw_W → Prop} (hy : plainName y.cls = true) (hw : ws = Cond.code y cc maxL ret :: ws') (hm : (lg_sl av).length ≤ maxL)
    (body : ∀ (p : Program) (e : Env) (s : State) (m : MethodId) (args : Array Value) (below : List Frame) (meth : Method) (c : Code) (A : Nat → Prop) (ls : Array Slot), p.tables.exec = Jvm.exec → c.code = cc → c.maxLocals = maxL → meth.sig.returnType = ret → meth.locks = false → meth.name = y.name → (∀ w ∈ ws, w.before args s = true) → s.vm.findClass y.cls = some m.cls → va_K D cl tys s → fw_P D cl w s.heap → fw_D A w → (∀ q : Nat, s.heap.size ≤ q → A q) → va_S A s.heap s.heap [] → lv_has ls maxL (lv_args 0 av) →
      W p l e rm s m args below meth c s.heap [] 0 0 (MQ below (va_Qq post (fw_B D cl tys A) A) args s mc ms A) (F0 m 0 ls [])) : fw_Mq l y ws rm mc ms D cl tys w av post :=
  fun _ => fw_of (Qf := fun A => va_Qq post (fw_B D cl tys A) A) hy hw hm body
end FWO
