/-! THE YARD OF THE PROGRAM: its cells by kind: 0 the object, 1 the row of wagons, 2 of tracks, 3 of rakes, 4 of tables, 5 a wagon, 6 a track, 7 a rake, 8 its places, 9 a table, 10 its cells -/
def xV (n : Nat) : Nat → Nat → Prop := fun k i => match k with
  | 0 => i = 0
  | 1 => i = 0
  | 2 => i = 0
  | 3 => i = 0
  | 4 => i = 0
  | 5 => i < n
  | 6 => i < 6
  | 7 => i < 4
  | 8 => i < 4
  | 9 => i < 2
  | 10 => i < 2
  | _ => False
def xE (kk : Nat → ClassId) (ad : Nat → Nat → Nat) (n : Nat) (I : sI) (O : sO) : Nat → Nat → va_E := fun k i => match k with
  | 0 => .inr (4, [.ref (ad 1 0), .int (nI n), .ref (ad 2 0), .ref (ad 3 0), .ref (ad 4 0), .int (I 11 0), .int (I 11 1), .int (I 11 2)])
  | 1 => .inl (kk 1, 40, .inr (.inr (.inr (.inr (fun j => if j < n then some (ad 5 j) else none)))))
  | 2 => .inl (kk 2, 6, .inr (.inr (.inr (.inr (fun j => if j < 6 then some (ad 6 j) else none)))))
  | 3 => .inl (kk 3, 4, .inr (.inr (.inr (.inr (fun j => if j < 4 then some (ad 7 j) else none)))))
  | 4 => .inl (kk 4, 2, .inr (.inr (.inr (.inr (fun j => if j < 2 then some (ad 9 j) else none)))))
  | 5 => .inr (3, [.int (nI i), .int (I 0 i), .int (I 1 i), va_rf ((O 0 i).map (ad 5)), .int (I 2 i), .int (I 3 i)])
  | 6 => .inr (2, [va_rf ((O 1 i).map (ad 5)), .int (I 4 i)])
  | 7 => .inr (0, [.int (I 5 i), .int (I 6 i), .int (I 7 i), .ref (ad 8 i)])
  | 8 => .inl (kk 1, 12, .inr (.inr (.inr (.inr (fun j => if j < 12 then (O (2 + i) j).map (ad 5) else none)))))
  | 9 => .inr (1, [.int (I 8 i), .int (I 9 i), .int (I 10 i), .ref (ad 10 i)])
  | 10 => .inl (kk 0, 72, .inl (fun j => if j < 72 then I (20 + i) j else 0))
  | _ => .inl (kk 0, 0, .inl (fun _ => 0))
abbrev xT (kk : Nat → ClassId) : List (ClassId × FieldType) := [(kk 0, .int), (kk 1, .object "WagonSidings$Wagon"), (kk 2, .object "WagonSidings$Track"), (kk 3, .object "WagonSidings$Rake"), (kk 4, .object "WagonSidings$Table")]
/-- place i of rake r is there; place i of row a -/
def rkP (I : sI) (r : Nat) (i : Int32) : Prop := ¬ I 5 r = 0 ∧ ¬ i < 0 ∧ ¬ I 7 r ≤ i ∧ ¬ nI 12 ≤ i
def tbP (I : sI) (t : Nat) (i j : Int32) : Prop := ¬ i < 0 ∧ ¬ I 9 t ≤ i ∧ ¬ 12 ≤ i ∧ ¬ j < 0 ∧ ¬ I 10 t ≤ j ∧ ¬ 6 ≤ j
noncomputable abbrev xw (kk : Nat → ClassId) (ad : Nat → Nat → Nat) (n : Nat) (I : sI) (O : sO) : fw_W := sw (xV n) ad (xE kk ad n I O)
section XS
variable {kk : Nat → ClassId} {ad : Nat → Nat → Nat} {n : Nat} {I : sI} {O : sO}
theorem x_at0 (hj : sj (xV n) ad) : xw kk ad n I O (ad 0 0) = some (.inr (4, [.ref (ad 1 0), .int (nI n), .ref (ad 2 0), .ref (ad 3 0), .ref (ad 4 0), .int (I 11 0), .int (I 11 1), .int (I 11 2)])) := sw_at hj (k := 0) (i := 0) rfl
theorem x_at1 (hj : sj (xV n) ad) : xw kk ad n I O (ad 1 0) = some (.inl (kk 1, 40, .inr (.inr (.inr (.inr (fun j => if j < n then some (ad 5 j) else none)))))) := sw_at hj (k := 1) (i := 0) rfl
theorem x_at2 (hj : sj (xV n) ad) : xw kk ad n I O (ad 2 0) = some (.inl (kk 2, 6, .inr (.inr (.inr (.inr (fun j => if j < 6 then some (ad 6 j) else none)))))) := sw_at hj (k := 2) (i := 0) rfl
theorem x_at3 (hj : sj (xV n) ad) : xw kk ad n I O (ad 3 0) = some (.inl (kk 3, 4, .inr (.inr (.inr (.inr (fun j => if j < 4 then some (ad 7 j) else none)))))) := sw_at hj (k := 3) (i := 0) rfl
theorem x_at4 (hj : sj (xV n) ad) : xw kk ad n I O (ad 4 0) = some (.inl (kk 4, 2, .inr (.inr (.inr (.inr (fun j => if j < 2 then some (ad 9 j) else none)))))) := sw_at hj (k := 4) (i := 0) rfl
theorem x_at5 (hj : sj (xV n) ad) {i : Nat} (hi : i < n) : xw kk ad n I O (ad 5 i) = some (.inr (3, [.int (nI i), .int (I 0 i), .int (I 1 i), va_rf ((O 0 i).map (ad 5)), .int (I 2 i), .int (I 3 i)])) := sw_at hj (k := 5) (i := i) hi
theorem x_at6 (hj : sj (xV n) ad) {i : Nat} (hi : i < 6) : xw kk ad n I O (ad 6 i) = some (.inr (2, [va_rf ((O 1 i).map (ad 5)), .int (I 4 i)])) := sw_at hj (k := 6) (i := i) hi
theorem x_at7 (hj : sj (xV n) ad) {i : Nat} (hi : i < 4) : xw kk ad n I O (ad 7 i) = some (.inr (0, [.int (I 5 i), .int (I 6 i), .int (I 7 i), .ref (ad 8 i)])) := sw_at hj (k := 7) (i := i) hi
theorem x_at8 (hj : sj (xV n) ad) {i : Nat} (hi : i < 4) : xw kk ad n I O (ad 8 i) = some (.inl (kk 1, 12, .inr (.inr (.inr (.inr (fun j => if j < 12 then (O (2 + i) j).map (ad 5) else none)))))) := sw_at hj (k := 8) (i := i) hi
theorem x_at9 (hj : sj (xV n) ad) {i : Nat} (hi : i < 2) : xw kk ad n I O (ad 9 i) = some (.inr (1, [.int (I 8 i), .int (I 9 i), .int (I 10 i), .ref (ad 10 i)])) := sw_at hj (k := 9) (i := i) hi
theorem x_at10 (hj : sj (xV n) ad) {i : Nat} (hi : i < 2) : xw kk ad n I O (ad 10 i) = some (.inl (kk 0, 72, .inl (fun j => if j < 72 then I (20 + i) j else 0))) := sw_at hj (k := 10) (i := i) hi
theorem x_put5_2 (hj : sj (xV n) ad) {i : Nat} (hi : i < n) {v : Int32} : fw_up (xw kk ad n I O) (ad 5 i) (.inr (3, [.int (nI i), .int (I 0 i), .int v, va_rf ((O 0 i).map (ad 5)), .int (I 2 i), .int (I 3 i)])) = xw kk ad n (upI I 1 i v) O := sw_up hj (k := 5) (i := i) hi (by simp [xE, upI]) (by
  intro k' i' hv hne
  have e1 : ¬ 20 + i' = 1 := by omega
  unfold xE
  split <;> simp_all [upI, upO])
theorem x_put5_4 (hj : sj (xV n) ad) {i : Nat} (hi : i < n) {v : Int32} : fw_up (xw kk ad n I O) (ad 5 i) (.inr (3, [.int (nI i), .int (I 0 i), .int (I 1 i), va_rf ((O 0 i).map (ad 5)), .int v, .int (I 3 i)])) = xw kk ad n (upI I 2 i v) O := sw_up hj (k := 5) (i := i) hi (by simp [xE, upI]) (by
  intro k' i' hv hne
  have e1 : ¬ 20 + i' = 2 := by omega
  unfold xE
  split <;> simp_all [upI, upO])
theorem x_put5_5 (hj : sj (xV n) ad) {i : Nat} (hi : i < n) {v : Int32} : fw_up (xw kk ad n I O) (ad 5 i) (.inr (3, [.int (nI i), .int (I 0 i), .int (I 1 i), va_rf ((O 0 i).map (ad 5)), .int (I 2 i), .int v])) = xw kk ad n (upI I 3 i v) O := sw_up hj (k := 5) (i := i) hi (by simp [xE, upI]) (by
  intro k' i' hv hne
  have e1 : ¬ 20 + i' = 3 := by omega
  unfold xE
  split <;> simp_all [upI, upO])
theorem x_put6_1 (hj : sj (xV n) ad) {i : Nat} (hi : i < 6) {v : Int32} : fw_up (xw kk ad n I O) (ad 6 i) (.inr (2, [va_rf ((O 1 i).map (ad 5)), .int v])) = xw kk ad n (upI I 4 i v) O := sw_up hj (k := 6) (i := i) hi (by simp [xE, upI]) (by
  intro k' i' hv hne
  have e1 : ¬ 20 + i' = 4 := by omega
  unfold xE
  split <;> simp_all [upI, upO])
theorem x_put7_0 (hj : sj (xV n) ad) {i : Nat} (hi : i < 4) {v : Int32} : fw_up (xw kk ad n I O) (ad 7 i) (.inr (0, [.int v, .int (I 6 i), .int (I 7 i), .ref (ad 8 i)])) = xw kk ad n (upI I 5 i v) O := sw_up hj (k := 7) (i := i) hi (by simp [xE, upI]) (by
  intro k' i' hv hne
  have e1 : ¬ 20 + i' = 5 := by omega
  unfold xE
  split <;> simp_all [upI, upO])
theorem x_put7_1 (hj : sj (xV n) ad) {i : Nat} (hi : i < 4) {v : Int32} : fw_up (xw kk ad n I O) (ad 7 i) (.inr (0, [.int (I 5 i), .int v, .int (I 7 i), .ref (ad 8 i)])) = xw kk ad n (upI I 6 i v) O := sw_up hj (k := 7) (i := i) hi (by simp [xE, upI]) (by
  intro k' i' hv hne
  have e1 : ¬ 20 + i' = 6 := by omega
  unfold xE
  split <;> simp_all [upI, upO])
theorem x_put7_2 (hj : sj (xV n) ad) {i : Nat} (hi : i < 4) {v : Int32} : fw_up (xw kk ad n I O) (ad 7 i) (.inr (0, [.int (I 5 i), .int (I 6 i), .int v, .ref (ad 8 i)])) = xw kk ad n (upI I 7 i v) O := sw_up hj (k := 7) (i := i) hi (by simp [xE, upI]) (by
  intro k' i' hv hne
  have e1 : ¬ 20 + i' = 7 := by omega
  unfold xE
  split <;> simp_all [upI, upO])
theorem x_put9_0 (hj : sj (xV n) ad) {i : Nat} (hi : i < 2) {v : Int32} : fw_up (xw kk ad n I O) (ad 9 i) (.inr (1, [.int v, .int (I 9 i), .int (I 10 i), .ref (ad 10 i)])) = xw kk ad n (upI I 8 i v) O := sw_up hj (k := 9) (i := i) hi (by simp [xE, upI]) (by
  intro k' i' hv hne
  have e1 : ¬ 20 + i' = 8 := by omega
  unfold xE
  split <;> simp_all [upI, upO])
theorem x_put9_1 (hj : sj (xV n) ad) {i : Nat} (hi : i < 2) {v : Int32} : fw_up (xw kk ad n I O) (ad 9 i) (.inr (1, [.int (I 8 i), .int v, .int (I 10 i), .ref (ad 10 i)])) = xw kk ad n (upI I 9 i v) O := sw_up hj (k := 9) (i := i) hi (by simp [xE, upI]) (by
  intro k' i' hv hne
  have e1 : ¬ 20 + i' = 9 := by omega
  unfold xE
  split <;> simp_all [upI, upO])
theorem x_put9_2 (hj : sj (xV n) ad) {i : Nat} (hi : i < 2) {v : Int32} : fw_up (xw kk ad n I O) (ad 9 i) (.inr (1, [.int (I 8 i), .int (I 9 i), .int v, .ref (ad 10 i)])) = xw kk ad n (upI I 10 i v) O := sw_up hj (k := 9) (i := i) hi (by simp [xE, upI]) (by
  intro k' i' hv hne
  have e1 : ¬ 20 + i' = 10 := by omega
  unfold xE
  split <;> simp_all [upI, upO])
theorem x_put5_3N (hj : sj (xV n) ad) {i : Nat} (hi : i < n) : fw_up (xw kk ad n I O) (ad 5 i) (.inr (3, [.int (nI i), .int (I 0 i), .int (I 1 i), .null, .int (I 2 i), .int (I 3 i)])) = xw kk ad n I (upO O 0 i none) := sw_up hj (k := 5) (i := i) hi (by simp [xE, upO, va_rf]) (by
  intro k' i' hv hne
  have e1 : ¬ 2 + i' = 0 := by omega
  unfold xE
  split <;> simp_all [upI, upO])
theorem x_put5_3 (hj : sj (xV n) ad) {i j : Nat} (hi : i < n) : fw_up (xw kk ad n I O) (ad 5 i) (.inr (3, [.int (nI i), .int (I 0 i), .int (I 1 i), .ref (ad 5 j), .int (I 2 i), .int (I 3 i)])) = xw kk ad n I (upO O 0 i (some j)) := sw_up hj (k := 5) (i := i) hi (by simp [xE, upO, va_rf]) (by
  intro k' i' hv hne
  have e1 : ¬ 2 + i' = 0 := by omega
  unfold xE
  split <;> simp_all [upI, upO])
theorem x_put6_0N (hj : sj (xV n) ad) {i : Nat} (hi : i < 6) : fw_up (xw kk ad n I O) (ad 6 i) (.inr (2, [.null, .int (I 4 i)])) = xw kk ad n I (upO O 1 i none) := sw_up hj (k := 6) (i := i) hi (by simp [xE, upO, va_rf]) (by
  intro k' i' hv hne
  have e1 : ¬ 2 + i' = 1 := by omega
  unfold xE
  split <;> simp_all [upI, upO])
theorem x_put6_0 (hj : sj (xV n) ad) {i j : Nat} (hi : i < 6) : fw_up (xw kk ad n I O) (ad 6 i) (.inr (2, [.ref (ad 5 j), .int (I 4 i)])) = xw kk ad n I (upO O 1 i (some j)) := sw_up hj (k := 6) (i := i) hi (by simp [xE, upO, va_rf]) (by
  intro k' i' hv hne
  have e1 : ¬ 2 + i' = 1 := by omega
  unfold xE
  split <;> simp_all [upI, upO])
theorem x_put0_5 (hj : sj (xV n) ad) {v : Int32} : fw_up (xw kk ad n I O) (ad 0 0) (.inr (4, [.ref (ad 1 0), .int (nI n), .ref (ad 2 0), .ref (ad 3 0), .ref (ad 4 0), .int v, .int (I 11 1), .int (I 11 2)])) = xw kk ad n (upI I 11 0 v) O := sw_up hj (k := 0) (i := 0) rfl (by simp [xE, upI]) (by
  intro k' i' hv hne
  have e1 : ¬ 20 + i' = 11 := by omega
  unfold xE
  split <;> simp_all [upI, upO, xV])
theorem x_put0_6 (hj : sj (xV n) ad) {v : Int32} : fw_up (xw kk ad n I O) (ad 0 0) (.inr (4, [.ref (ad 1 0), .int (nI n), .ref (ad 2 0), .ref (ad 3 0), .ref (ad 4 0), .int (I 11 0), .int v, .int (I 11 2)])) = xw kk ad n (upI I 11 1 v) O := sw_up hj (k := 0) (i := 0) rfl (by simp [xE, upI]) (by
  intro k' i' hv hne
  have e1 : ¬ 20 + i' = 11 := by omega
  unfold xE
  split <;> simp_all [upI, upO, xV])
theorem x_put0_7 (hj : sj (xV n) ad) {v : Int32} : fw_up (xw kk ad n I O) (ad 0 0) (.inr (4, [.ref (ad 1 0), .int (nI n), .ref (ad 2 0), .ref (ad 3 0), .ref (ad 4 0), .int (I 11 0), .int (I 11 1), .int v])) = xw kk ad n (upI I 11 2 v) O := sw_up hj (k := 0) (i := 0) rfl (by simp [xE, upI]) (by
  intro k' i' hv hne
  have e1 : ¬ 20 + i' = 11 := by omega
  unfold xE
  split <;> simp_all [upI, upO, xV])
theorem x_row (hj : sj (xV n) ad) {i p : Nat} (hi : i < 4) (hp : p < 12) {o : Option Nat} : fw_up (xw kk ad n I O) (ad 8 i) (.inl (kk 1, 12, .inr (.inr (.inr (.inr (va_up (fun j => if j < 12 then (O (2 + i) j).map (ad 5) else none) p (o.map (ad 5)))))))) = xw kk ad n I (upO O (2 + i) p o) := by
  refine sw_up hj (k := 8) (i := i) hi ?_ ?_
  · have : (fun j => if j < 12 then (upO O (2 + i) p o (2 + i) j).map (ad 5) else none) = va_up (fun j => if j < 12 then (O (2 + i) j).map (ad 5) else none) p (o.map (ad 5)) := by
      funext j
      unfold va_up upO
      by_cases h : j = p
      · subst h; simp [hp]
      · simp [h]
    show Sum.inl _ = _
    rw [← this]
  · intro k' i' hv hne
    have e0 : ¬ 0 = 2 + i := by omega
    have e1 : ¬ 1 = 2 + i := by omega
    unfold xE
    split <;> simp_all [upO]
theorem x_cell (hj : sj (xV n) ad) {i p : Nat} (hi : i < 2) (hp : p < 72) {v : Int32} : fw_up (xw kk ad n I O) (ad 10 i) (.inl (kk 0, 72, .inl (upd (fun j => if j < 72 then I (20 + i) j else 0) p v))) = xw kk ad n (upI I (20 + i) p v) O := by
  refine sw_up hj (k := 10) (i := i) hi ?_ ?_
  · have : (fun j => if j < 72 then upI I (20 + i) p v (20 + i) j else 0) = upd (fun j => if j < 72 then I (20 + i) j else 0) p v := by
      funext j
      unfold upd upI
      by_cases h : j = p
      · subst h; simp [hp]
      · simp [h]
    show Sum.inl _ = _
    rw [← this]
  · intro k' i' hv hne
    have e0 : ¬ 0 = 20 + i := by omega
    have e1 : ¬ 1 = 20 + i := by omega
    have e2 : ¬ 2 = 20 + i := by omega
    have e3 : ¬ 3 = 20 + i := by omega
    have e4 : ¬ 4 = 20 + i := by omega
    have e5 : ¬ 5 = 20 + i := by omega
    have e6 : ¬ 6 = 20 + i := by omega
    have e7 : ¬ 7 = 20 + i := by omega
    have e8 : ¬ 8 = 20 + i := by omega
    have e9 : ¬ 9 = 20 + i := by omega
    have e10 : ¬ 10 = 20 + i := by omega
    have e11 : ¬ 11 = 20 + i := by omega
    unfold xE
    split <;> simp_all [upI]
end XS
