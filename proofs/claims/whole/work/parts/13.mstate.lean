/-! THE REFERENCE: its cells by kind: 0 the object, 1 to 11 its rows, in the order of its fields; J k i: what row k has at i; J 0 0 how many wagons, J 12 0, J 13 0, J 14 0 what is told -/
def mlen (k : Nat) : Nat := match k with
  | 1 => 40
  | 2 => 40
  | 3 => 40
  | 4 => 6
  | 5 => 6
  | 6 => 4
  | 7 => 4
  | 8 => 48
  | 9 => 2
  | 10 => 2
  | _ => 144
def mV : Nat → Nat → Prop := fun k i => k ≤ 11 ∧ i = 0
def mE (kk : Nat → ClassId) (ad : Nat → Nat → Nat) (J : sI) : Nat → Nat → va_E := fun k _ => match k with
  | 0 => .inr (5, [.int (J 0 0), .ref (ad 1 0), .ref (ad 2 0), .ref (ad 3 0), .ref (ad 4 0), .ref (ad 5 0), .ref (ad 6 0), .ref (ad 7 0), .ref (ad 8 0), .ref (ad 9 0), .ref (ad 10 0), .ref (ad 11 0), .int (J 12 0), .int (J 13 0), .int (J 14 0)])
  | k + 1 => .inl (kk 0, mlen (k + 1), .inl (J (k + 1)))
noncomputable abbrev mw (kk : Nat → ClassId) (ad : Nat → Nat → Nat) (J : sI) : fw_W := sw mV ad (mE kk ad J)
section MS
variable {kk : Nat → ClassId} {ad : Nat → Nat → Nat} {J : sI}
theorem m_at0 (hj : sj mV ad) : mw kk ad J (ad 0 0) = some (.inr (5, [.int (J 0 0), .ref (ad 1 0), .ref (ad 2 0), .ref (ad 3 0), .ref (ad 4 0), .ref (ad 5 0), .ref (ad 6 0), .ref (ad 7 0), .ref (ad 8 0), .ref (ad 9 0), .ref (ad 10 0), .ref (ad 11 0), .int (J 12 0), .int (J 13 0), .int (J 14 0)])) := sw_at hj (k := 0) (i := 0) ⟨by decide, rfl⟩
theorem m_at1 (hj : sj mV ad) : mw kk ad J (ad 1 0) = some (.inl (kk 0, 40, .inl (J 1))) := sw_at hj (k := 1) (i := 0) ⟨by decide, rfl⟩
theorem m_at2 (hj : sj mV ad) : mw kk ad J (ad 2 0) = some (.inl (kk 0, 40, .inl (J 2))) := sw_at hj (k := 2) (i := 0) ⟨by decide, rfl⟩
theorem m_at3 (hj : sj mV ad) : mw kk ad J (ad 3 0) = some (.inl (kk 0, 40, .inl (J 3))) := sw_at hj (k := 3) (i := 0) ⟨by decide, rfl⟩
theorem m_at4 (hj : sj mV ad) : mw kk ad J (ad 4 0) = some (.inl (kk 0, 6, .inl (J 4))) := sw_at hj (k := 4) (i := 0) ⟨by decide, rfl⟩
theorem m_at5 (hj : sj mV ad) : mw kk ad J (ad 5 0) = some (.inl (kk 0, 6, .inl (J 5))) := sw_at hj (k := 5) (i := 0) ⟨by decide, rfl⟩
theorem m_at6 (hj : sj mV ad) : mw kk ad J (ad 6 0) = some (.inl (kk 0, 4, .inl (J 6))) := sw_at hj (k := 6) (i := 0) ⟨by decide, rfl⟩
theorem m_at7 (hj : sj mV ad) : mw kk ad J (ad 7 0) = some (.inl (kk 0, 4, .inl (J 7))) := sw_at hj (k := 7) (i := 0) ⟨by decide, rfl⟩
theorem m_at8 (hj : sj mV ad) : mw kk ad J (ad 8 0) = some (.inl (kk 0, 48, .inl (J 8))) := sw_at hj (k := 8) (i := 0) ⟨by decide, rfl⟩
theorem m_at9 (hj : sj mV ad) : mw kk ad J (ad 9 0) = some (.inl (kk 0, 2, .inl (J 9))) := sw_at hj (k := 9) (i := 0) ⟨by decide, rfl⟩
theorem m_at10 (hj : sj mV ad) : mw kk ad J (ad 10 0) = some (.inl (kk 0, 2, .inl (J 10))) := sw_at hj (k := 10) (i := 0) ⟨by decide, rfl⟩
theorem m_at11 (hj : sj mV ad) : mw kk ad J (ad 11 0) = some (.inl (kk 0, 144, .inl (J 11))) := sw_at hj (k := 11) (i := 0) ⟨by decide, rfl⟩
theorem m_put0 (hj : sj mV ad) {v : Int32} : fw_up (mw kk ad J) (ad 0 0) (.inr (5, [.int v, .ref (ad 1 0), .ref (ad 2 0), .ref (ad 3 0), .ref (ad 4 0), .ref (ad 5 0), .ref (ad 6 0), .ref (ad 7 0), .ref (ad 8 0), .ref (ad 9 0), .ref (ad 10 0), .ref (ad 11 0), .int (J 12 0), .int (J 13 0), .int (J 14 0)])) = mw kk ad (upI J 0 0 v) := by
  refine sw_up hj (k := 0) (i := 0) ⟨by decide, rfl⟩ (by simp [mE, upI]) ?_
  intro k' i' hv hne
  cases k' with
  | zero => exact absurd ⟨rfl, hv.2⟩ hne
  | succ k' =>
    have hv := hv.1
    have h : upI J 0 0 v (k' + 1) = J (k' + 1) := by
      funext x
      exact upI_n (by omega)
    show Sum.inl _ = Sum.inl _
    rw [h]
theorem m_put12 (hj : sj mV ad) {v : Int32} : fw_up (mw kk ad J) (ad 0 0) (.inr (5, [.int (J 0 0), .ref (ad 1 0), .ref (ad 2 0), .ref (ad 3 0), .ref (ad 4 0), .ref (ad 5 0), .ref (ad 6 0), .ref (ad 7 0), .ref (ad 8 0), .ref (ad 9 0), .ref (ad 10 0), .ref (ad 11 0), .int v, .int (J 13 0), .int (J 14 0)])) = mw kk ad (upI J 12 0 v) := by
  refine sw_up hj (k := 0) (i := 0) ⟨by decide, rfl⟩ (by simp [mE, upI]) ?_
  intro k' i' hv hne
  cases k' with
  | zero => exact absurd ⟨rfl, hv.2⟩ hne
  | succ k' =>
    have hv := hv.1
    have h : upI J 12 0 v (k' + 1) = J (k' + 1) := by
      funext x
      exact upI_n (by omega)
    show Sum.inl _ = Sum.inl _
    rw [h]
theorem m_put13 (hj : sj mV ad) {v : Int32} : fw_up (mw kk ad J) (ad 0 0) (.inr (5, [.int (J 0 0), .ref (ad 1 0), .ref (ad 2 0), .ref (ad 3 0), .ref (ad 4 0), .ref (ad 5 0), .ref (ad 6 0), .ref (ad 7 0), .ref (ad 8 0), .ref (ad 9 0), .ref (ad 10 0), .ref (ad 11 0), .int (J 12 0), .int v, .int (J 14 0)])) = mw kk ad (upI J 13 0 v) := by
  refine sw_up hj (k := 0) (i := 0) ⟨by decide, rfl⟩ (by simp [mE, upI]) ?_
  intro k' i' hv hne
  cases k' with
  | zero => exact absurd ⟨rfl, hv.2⟩ hne
  | succ k' =>
    have hv := hv.1
    have h : upI J 13 0 v (k' + 1) = J (k' + 1) := by
      funext x
      exact upI_n (by omega)
    show Sum.inl _ = Sum.inl _
    rw [h]
theorem m_put14 (hj : sj mV ad) {v : Int32} : fw_up (mw kk ad J) (ad 0 0) (.inr (5, [.int (J 0 0), .ref (ad 1 0), .ref (ad 2 0), .ref (ad 3 0), .ref (ad 4 0), .ref (ad 5 0), .ref (ad 6 0), .ref (ad 7 0), .ref (ad 8 0), .ref (ad 9 0), .ref (ad 10 0), .ref (ad 11 0), .int (J 12 0), .int (J 13 0), .int v])) = mw kk ad (upI J 14 0 v) := by
  refine sw_up hj (k := 0) (i := 0) ⟨by decide, rfl⟩ (by simp [mE, upI]) ?_
  intro k' i' hv hne
  cases k' with
  | zero => exact absurd ⟨rfl, hv.2⟩ hne
  | succ k' =>
    have hv := hv.1
    have h : upI J 14 0 v (k' + 1) = J (k' + 1) := by
      funext x
      exact upI_n (by omega)
    show Sum.inl _ = Sum.inl _
    rw [h]
theorem m_st {k : Nat} (hk : 1 ≤ k ∧ k ≤ 11) (hj : sj mV ad) {p : Nat} {v : Int32} : fw_up (mw kk ad J) (ad k 0) (.inl (kk 0, mlen k, .inl (upd (J k) p v))) = mw kk ad (upI J k p v) := by
  refine sw_up hj (k := k) (i := 0) ⟨hk.2, rfl⟩ ?_ ?_
  · cases k with
    | zero => omega
    | succ k =>
      have h : upI J (k + 1) p v (k + 1) = upd (J (k + 1)) p v := by
        funext x
        simp [upI, upd]
      show Sum.inl _ = Sum.inl _
      rw [h]
  · intro k' i' hv hne
    cases k' with
    | zero =>
      have h : ∀ c, ¬ c = k → upI J k p v c 0 = J c 0 := fun c h => upI_n (fun z => h z.1)
      show Sum.inr _ = Sum.inr _
      rw [h 0 (by omega), h 12 (by omega), h 13 (by omega), h 14 (by omega)]
    | succ k' =>
      have h : upI J k p v (k' + 1) = J (k' + 1) := by
        funext x
        exact upI_n (fun z => hne ⟨z.1, hv.2⟩)
      show Sum.inl _ = Sum.inl _
      rw [h]
end MS
def mtl (J : sI) (f c : Int32) : sI := upI (upI (upI J 12 0 f) 13 0 c) 14 0 0
def b1 (o : Option Nat) : Int32 := match o with
  | none => 0
  | some _ => 1
/-- how the reference's rows have a yard -/
def mR (n : Nat) (I : sI) (O : sO) (J : sI) : Prop :=
  J 0 0 = nI n ∧
  (∀ i, i < n → J 1 i = I 0 i) ∧
  (∀ i, i < n → J 2 i = I 1 i) ∧
  (∀ i, i < n → J 3 i = num (O 0 i)) ∧
  (∀ t, t < 6 → J 4 t = num (O 1 t)) ∧
  (∀ t, t < 6 → J 5 t = I 4 t) ∧
  (∀ r, r < 4 → J 6 r = pif (I 5 r = 0) (-1) (I 7 r)) ∧
  (∀ r, r < 4 → J 7 r = I 6 r) ∧
  (∀ r i, r < 4 → i < 12 → ¬ I 5 r = 0 → nI i < I 7 r → J 8 (12 * r + i) = num (O (2 + r) i)) ∧
  (∀ t, t < 2 → J 9 t = pif (I 8 t = 0) (-1) (I 9 t)) ∧
  (∀ t, t < 2 → J 10 t = I 10 t) ∧
  (∀ t c, t < 2 → c < 72 → J 11 (72 * t + c) = I (20 + t) c) ∧
  J 12 0 = I 11 0 ∧ J 13 0 = I 11 1 ∧ J 14 0 = I 11 2
theorem mR_f2 {n : Nat} {I : sI} {O : sO} {J : sI} (h : mR n I O J) {j : Nat} {v : Int32} : mR n (upI I 2 j v) O J := by
  obtain ⟨g0, g1, g2, g3, g4, g5, g6, g7, g8, g9, g10, g11, g12, g13, g14⟩ := h
  have hI : ∀ k x, ¬ (k = 2 ∧ x = j) → (upI I 2 j v) k x = I k x := fun k x q => upI_n q
  exact ⟨by exact g0,
    fun i hi => by rw [hI 0 _ (by omega)]; exact g1 i hi,
    fun i hi => by rw [hI 1 _ (by omega)]; exact g2 i hi,
    fun i hi => by exact g3 i hi,
    fun t ht => by exact g4 t ht,
    fun t ht => by rw [hI 4 _ (by omega)]; exact g5 t ht,
    fun r hr => by rw [hI 5 _ (by omega), hI 7 _ (by omega)]; exact g6 r hr,
    fun r hr => by rw [hI 6 _ (by omega)]; exact g7 r hr,
    fun r i hr hi h5 h7 => by rw [hI 5 _ (by omega)] at h5; rw [hI 7 _ (by omega)] at h7; exact g8 r i hr hi h5 h7,
    fun t ht => by rw [hI 8 _ (by omega), hI 9 _ (by omega)]; exact g9 t ht,
    fun t ht => by rw [hI 10 _ (by omega)]; exact g10 t ht,
    fun t c ht hc => by rw [hI (20 + t) _ (by omega)]; exact g11 t c ht hc,
    by rw [hI 11 _ (by omega)]; exact g12,
    by rw [hI 11 _ (by omega)]; exact g13,
    by rw [hI 11 _ (by omega)]; exact g14⟩
theorem mR_f3 {n : Nat} {I : sI} {O : sO} {J : sI} (h : mR n I O J) {j : Nat} {v : Int32} : mR n (upI I 3 j v) O J := by
  obtain ⟨g0, g1, g2, g3, g4, g5, g6, g7, g8, g9, g10, g11, g12, g13, g14⟩ := h
  have hI : ∀ k x, ¬ (k = 3 ∧ x = j) → (upI I 3 j v) k x = I k x := fun k x q => upI_n q
  exact ⟨by exact g0,
    fun i hi => by rw [hI 0 _ (by omega)]; exact g1 i hi,
    fun i hi => by rw [hI 1 _ (by omega)]; exact g2 i hi,
    fun i hi => by exact g3 i hi,
    fun t ht => by exact g4 t ht,
    fun t ht => by rw [hI 4 _ (by omega)]; exact g5 t ht,
    fun r hr => by rw [hI 5 _ (by omega), hI 7 _ (by omega)]; exact g6 r hr,
    fun r hr => by rw [hI 6 _ (by omega)]; exact g7 r hr,
    fun r i hr hi h5 h7 => by rw [hI 5 _ (by omega)] at h5; rw [hI 7 _ (by omega)] at h7; exact g8 r i hr hi h5 h7,
    fun t ht => by rw [hI 8 _ (by omega), hI 9 _ (by omega)]; exact g9 t ht,
    fun t ht => by rw [hI 10 _ (by omega)]; exact g10 t ht,
    fun t c ht hc => by rw [hI (20 + t) _ (by omega)]; exact g11 t c ht hc,
    by rw [hI 11 _ (by omega)]; exact g12,
    by rw [hI 11 _ (by omega)]; exact g13,
    by rw [hI 11 _ (by omega)]; exact g14⟩
theorem mR_beh {n : Nat} {I : sI} {O : sO} {J : sI} (h : mR n I O J) {j : Nat} {o : Option Nat} : mR n I (upO O 0 j o) (upI J 3 j (num o)) := by
  obtain ⟨g0, g1, g2, g3, g4, g5, g6, g7, g8, g9, g10, g11, g12, g13, g14⟩ := h
  have hJ : ∀ k x, ¬ (k = 3 ∧ x = j) → (upI J 3 j (num o)) k x = J k x := fun k x q => upI_n q
  have hO : ∀ k x, ¬ (k = 0 ∧ x = j) → (upO O 0 j o) k x = O k x := fun k x q => upO_n q
  exact ⟨by rw [hJ 0 _ (by omega)]; exact g0,
    fun i hi => by rw [hJ 1 _ (by omega)]; exact g1 i hi,
    fun i hi => by rw [hJ 2 _ (by omega)]; exact g2 i hi,
    fun i hi => by
      by_cases z : i = j
      · subst z; rw [upI_s, upO_s]
      · rw [hJ 3 i (by omega), hO 0 i (by omega)]; exact g3 i hi,
    fun t ht => by rw [hJ 4 _ (by omega), hO 1 _ (by omega)]; exact g4 t ht,
    fun t ht => by rw [hJ 5 _ (by omega)]; exact g5 t ht,
    fun r hr => by rw [hJ 6 _ (by omega)]; exact g6 r hr,
    fun r hr => by rw [hJ 7 _ (by omega)]; exact g7 r hr,
    fun r i hr hi h5 h7 => by rw [hJ 8 _ (by omega), hO (2 + r) _ (by omega)]; exact g8 r i hr hi h5 h7,
    fun t ht => by rw [hJ 9 _ (by omega)]; exact g9 t ht,
    fun t ht => by rw [hJ 10 _ (by omega)]; exact g10 t ht,
    fun t c ht hc => by rw [hJ 11 _ (by omega)]; exact g11 t c ht hc,
    by rw [hJ 12 _ (by omega)]; exact g12,
    by rw [hJ 13 _ (by omega)]; exact g13,
    by rw [hJ 14 _ (by omega)]; exact g14⟩
theorem mR_first {n : Nat} {I : sI} {O : sO} {J : sI} (h : mR n I O J) {j : Nat} {o : Option Nat} : mR n I (upO O 1 j o) (upI J 4 j (num o)) := by
  obtain ⟨g0, g1, g2, g3, g4, g5, g6, g7, g8, g9, g10, g11, g12, g13, g14⟩ := h
  have hJ : ∀ k x, ¬ (k = 4 ∧ x = j) → (upI J 4 j (num o)) k x = J k x := fun k x q => upI_n q
  have hO : ∀ k x, ¬ (k = 1 ∧ x = j) → (upO O 1 j o) k x = O k x := fun k x q => upO_n q
  exact ⟨by rw [hJ 0 _ (by omega)]; exact g0,
    fun i hi => by rw [hJ 1 _ (by omega)]; exact g1 i hi,
    fun i hi => by rw [hJ 2 _ (by omega)]; exact g2 i hi,
    fun i hi => by rw [hJ 3 _ (by omega), hO 0 _ (by omega)]; exact g3 i hi,
    fun i hi => by
      by_cases z : i = j
      · subst z; rw [upI_s, upO_s]
      · rw [hJ 4 i (by omega), hO 1 i (by omega)]; exact g4 i hi,
    fun t ht => by rw [hJ 5 _ (by omega)]; exact g5 t ht,
    fun r hr => by rw [hJ 6 _ (by omega)]; exact g6 r hr,
    fun r hr => by rw [hJ 7 _ (by omega)]; exact g7 r hr,
    fun r i hr hi h5 h7 => by rw [hJ 8 _ (by omega), hO (2 + r) _ (by omega)]; exact g8 r i hr hi h5 h7,
    fun t ht => by rw [hJ 9 _ (by omega)]; exact g9 t ht,
    fun t ht => by rw [hJ 10 _ (by omega)]; exact g10 t ht,
    fun t c ht hc => by rw [hJ 11 _ (by omega)]; exact g11 t c ht hc,
    by rw [hJ 12 _ (by omega)]; exact g12,
    by rw [hJ 13 _ (by omega)]; exact g13,
    by rw [hJ 14 _ (by omega)]; exact g14⟩
theorem mR_sig {n : Nat} {I : sI} {O : sO} {J : sI} (h : mR n I O J) {j : Nat} {v : Int32} : mR n (upI I 4 j v) O (upI J 5 j v) := by
  obtain ⟨g0, g1, g2, g3, g4, g5, g6, g7, g8, g9, g10, g11, g12, g13, g14⟩ := h
  have hJ : ∀ k x, ¬ (k = 5 ∧ x = j) → (upI J 5 j v) k x = J k x := fun k x q => upI_n q
  have hI : ∀ k x, ¬ (k = 4 ∧ x = j) → (upI I 4 j v) k x = I k x := fun k x q => upI_n q
  exact ⟨by rw [hJ 0 _ (by omega)]; exact g0,
    fun i hi => by rw [hJ 1 _ (by omega), hI 0 _ (by omega)]; exact g1 i hi,
    fun i hi => by rw [hJ 2 _ (by omega), hI 1 _ (by omega)]; exact g2 i hi,
    fun i hi => by rw [hJ 3 _ (by omega)]; exact g3 i hi,
    fun t ht => by rw [hJ 4 _ (by omega)]; exact g4 t ht,
    fun i hi => by
      by_cases z : i = j
      · subst z; rw [upI_s, upI_s]
      · rw [hJ 5 i (by omega), hI 4 i (by omega)]; exact g5 i hi,
    fun r hr => by rw [hJ 6 _ (by omega), hI 5 _ (by omega), hI 7 _ (by omega)]; exact g6 r hr,
    fun r hr => by rw [hJ 7 _ (by omega), hI 6 _ (by omega)]; exact g7 r hr,
    fun r i hr hi h5 h7 => by rw [hI 5 _ (by omega)] at h5; rw [hI 7 _ (by omega)] at h7; rw [hJ 8 _ (by omega)]; exact g8 r i hr hi h5 h7,
    fun t ht => by rw [hJ 9 _ (by omega), hI 8 _ (by omega), hI 9 _ (by omega)]; exact g9 t ht,
    fun t ht => by rw [hJ 10 _ (by omega), hI 10 _ (by omega)]; exact g10 t ht,
    fun t c ht hc => by rw [hJ 11 _ (by omega), hI (20 + t) _ (by omega)]; exact g11 t c ht hc,
    by rw [hJ 12 _ (by omega), hI 11 _ (by omega)]; exact g12,
    by rw [hJ 13 _ (by omega), hI 11 _ (by omega)]; exact g13,
    by rw [hJ 14 _ (by omega), hI 11 _ (by omega)]; exact g14⟩
theorem mR_load {n : Nat} {I : sI} {O : sO} {J : sI} (h : mR n I O J) {j : Nat} {v : Int32} : mR n (upI I 1 j v) O (upI J 2 j v) := by
  obtain ⟨g0, g1, g2, g3, g4, g5, g6, g7, g8, g9, g10, g11, g12, g13, g14⟩ := h
  have hJ : ∀ k x, ¬ (k = 2 ∧ x = j) → (upI J 2 j v) k x = J k x := fun k x q => upI_n q
  have hI : ∀ k x, ¬ (k = 1 ∧ x = j) → (upI I 1 j v) k x = I k x := fun k x q => upI_n q
  exact ⟨by rw [hJ 0 _ (by omega)]; exact g0,
    fun i hi => by rw [hJ 1 _ (by omega), hI 0 _ (by omega)]; exact g1 i hi,
    fun i hi => by
      by_cases z : i = j
      · subst z; rw [upI_s, upI_s]
      · rw [hJ 2 i (by omega), hI 1 i (by omega)]; exact g2 i hi,
    fun i hi => by rw [hJ 3 _ (by omega)]; exact g3 i hi,
    fun t ht => by rw [hJ 4 _ (by omega)]; exact g4 t ht,
    fun t ht => by rw [hJ 5 _ (by omega), hI 4 _ (by omega)]; exact g5 t ht,
    fun r hr => by rw [hJ 6 _ (by omega), hI 5 _ (by omega), hI 7 _ (by omega)]; exact g6 r hr,
    fun r hr => by rw [hJ 7 _ (by omega), hI 6 _ (by omega)]; exact g7 r hr,
    fun r i hr hi h5 h7 => by rw [hI 5 _ (by omega)] at h5; rw [hI 7 _ (by omega)] at h7; rw [hJ 8 _ (by omega)]; exact g8 r i hr hi h5 h7,
    fun t ht => by rw [hJ 9 _ (by omega), hI 8 _ (by omega), hI 9 _ (by omega)]; exact g9 t ht,
    fun t ht => by rw [hJ 10 _ (by omega), hI 10 _ (by omega)]; exact g10 t ht,
    fun t c ht hc => by rw [hJ 11 _ (by omega), hI (20 + t) _ (by omega)]; exact g11 t c ht hc,
    by rw [hJ 12 _ (by omega), hI 11 _ (by omega)]; exact g12,
    by rw [hJ 13 _ (by omega), hI 11 _ (by omega)]; exact g13,
    by rw [hJ 14 _ (by omega), hI 11 _ (by omega)]; exact g14⟩
theorem mtl_ne {J : sI} {f c : Int32} {k x : Nat} (q : ¬ (12 ≤ k ∧ k ≤ 14)) : mtl J f c k x = J k x := by
  unfold mtl
  rw [upI_n (by omega), upI_n (by omega), upI_n (by omega)]
theorem tl_ne {I : sI} {f c : Int32} {k x : Nat} (q : ¬ k = 11) : tl I f c k x = I k x := by
  unfold tl
  rw [upI_n (by omega), upI_n (by omega), upI_n (by omega)]
theorem mR_tell {n : Nat} {I : sI} {O : sO} {J : sI} (h : mR n I O J) {f c0 : Int32} : mR n (tl I f c0) O (mtl J f c0) := by
  obtain ⟨g0, g1, g2, g3, g4, g5, g6, g7, g8, g9, g10, g11, g12, g13, g14⟩ := h
  have hJ : ∀ k x, ¬ (12 ≤ k ∧ k ≤ 14) → (mtl J f c0) k x = J k x := fun k x q => mtl_ne q
  have hI : ∀ k x, ¬ k = 11 → (tl I f c0) k x = I k x := fun k x q => tl_ne q
  exact ⟨by rw [hJ 0 _ (by omega)]; exact g0,
    fun i hi => by rw [hJ 1 _ (by omega), hI 0 _ (by omega)]; exact g1 i hi,
    fun i hi => by rw [hJ 2 _ (by omega), hI 1 _ (by omega)]; exact g2 i hi,
    fun i hi => by rw [hJ 3 _ (by omega)]; exact g3 i hi,
    fun t ht => by rw [hJ 4 _ (by omega)]; exact g4 t ht,
    fun t ht => by rw [hJ 5 _ (by omega), hI 4 _ (by omega)]; exact g5 t ht,
    fun r hr => by rw [hJ 6 _ (by omega), hI 5 _ (by omega), hI 7 _ (by omega)]; exact g6 r hr,
    fun r hr => by rw [hJ 7 _ (by omega), hI 6 _ (by omega)]; exact g7 r hr,
    fun r i hr hi h5 h7 => by rw [hI 5 _ (by omega)] at h5; rw [hI 7 _ (by omega)] at h7; rw [hJ 8 _ (by omega)]; exact g8 r i hr hi h5 h7,
    fun t ht => by rw [hJ 9 _ (by omega), hI 8 _ (by omega), hI 9 _ (by omega)]; exact g9 t ht,
    fun t ht => by rw [hJ 10 _ (by omega), hI 10 _ (by omega)]; exact g10 t ht,
    fun t c ht hc => by rw [hJ 11 _ (by omega), hI (20 + t) _ (by omega)]; exact g11 t c ht hc,
    by simp [mtl, tl, upI],
    by simp [mtl, tl, upI],
    by simp [mtl, tl, upI]⟩
theorem mR_raise {n : Nat} {I : sI} {O : sO} {J : sI} (h : mR n I O J) {v : Int32} : mR n (upI I 11 2 v) O (upI J 14 0 v) := by
  obtain ⟨g0, g1, g2, g3, g4, g5, g6, g7, g8, g9, g10, g11, g12, g13, g14⟩ := h
  have hJ : ∀ k x, ¬ (k = 14 ∧ x = 0) → (upI J 14 0 v) k x = J k x := fun k x q => upI_n q
  have hI : ∀ k x, ¬ (k = 11 ∧ x = 2) → (upI I 11 2 v) k x = I k x := fun k x q => upI_n q
  exact ⟨by rw [hJ 0 _ (by omega)]; exact g0,
    fun i hi => by rw [hJ 1 _ (by omega), hI 0 _ (by omega)]; exact g1 i hi,
    fun i hi => by rw [hJ 2 _ (by omega), hI 1 _ (by omega)]; exact g2 i hi,
    fun i hi => by rw [hJ 3 _ (by omega)]; exact g3 i hi,
    fun t ht => by rw [hJ 4 _ (by omega)]; exact g4 t ht,
    fun t ht => by rw [hJ 5 _ (by omega), hI 4 _ (by omega)]; exact g5 t ht,
    fun r hr => by rw [hJ 6 _ (by omega), hI 5 _ (by omega), hI 7 _ (by omega)]; exact g6 r hr,
    fun r hr => by rw [hJ 7 _ (by omega), hI 6 _ (by omega)]; exact g7 r hr,
    fun r i hr hi h5 h7 => by rw [hI 5 _ (by omega)] at h5; rw [hI 7 _ (by omega)] at h7; rw [hJ 8 _ (by omega)]; exact g8 r i hr hi h5 h7,
    fun t ht => by rw [hJ 9 _ (by omega), hI 8 _ (by omega), hI 9 _ (by omega)]; exact g9 t ht,
    fun t ht => by rw [hJ 10 _ (by omega), hI 10 _ (by omega)]; exact g10 t ht,
    fun t c ht hc => by rw [hJ 11 _ (by omega), hI (20 + t) _ (by omega)]; exact g11 t c ht hc,
    by simpa [upI] using g12,
    by simpa [upI] using g13,
    by simp [upI]⟩
theorem mR_cell {n : Nat} {I : sI} {O : sO} {J : sI} (h : mR n I O J) {s p : Nat} {v : Int32} (hs : s < 2) (hp : p < 72) : mR n (upI I (20 + s) p v) O (upI J 11 (72 * s + p) v) := by
  obtain ⟨g0, g1, g2, g3, g4, g5, g6, g7, g8, g9, g10, g11, g12, g13, g14⟩ := h
  have hJ : ∀ k x, ¬ (k = 11 ∧ x = 72 * s + p) → (upI J 11 (72 * s + p) v) k x = J k x := fun k x q => upI_n q
  have hI : ∀ k x, ¬ (k = 20 + s ∧ x = p) → (upI I (20 + s) p v) k x = I k x := fun k x q => upI_n q
  exact ⟨by rw [hJ 0 _ (by omega)]; exact g0,
    fun i hi => by rw [hJ 1 _ (by omega), hI 0 _ (by omega)]; exact g1 i hi,
    fun i hi => by rw [hJ 2 _ (by omega), hI 1 _ (by omega)]; exact g2 i hi,
    fun i hi => by rw [hJ 3 _ (by omega)]; exact g3 i hi,
    fun t ht => by rw [hJ 4 _ (by omega)]; exact g4 t ht,
    fun t ht => by rw [hJ 5 _ (by omega), hI 4 _ (by omega)]; exact g5 t ht,
    fun r hr => by rw [hJ 6 _ (by omega), hI 5 _ (by omega), hI 7 _ (by omega)]; exact g6 r hr,
    fun r hr => by rw [hJ 7 _ (by omega), hI 6 _ (by omega)]; exact g7 r hr,
    fun r i hr hi h5 h7 => by rw [hI 5 _ (by omega)] at h5; rw [hI 7 _ (by omega)] at h7; rw [hJ 8 _ (by omega)]; exact g8 r i hr hi h5 h7,
    fun t ht => by rw [hJ 9 _ (by omega), hI 8 _ (by omega), hI 9 _ (by omega)]; exact g9 t ht,
    fun t ht => by rw [hJ 10 _ (by omega), hI 10 _ (by omega)]; exact g10 t ht,
    fun t c ht hc => by
      by_cases z : t = s ∧ c = p
      · rw [z.1, z.2, upI_s, upI_s]
      · rw [hJ 11 _ (by omega), hI (20 + t) _ (by omega)]; exact g11 t c ht hc,
    by rw [hJ 12 _ (by omega), hI 11 _ (by omega)]; exact g12,
    by rw [hJ 13 _ (by omega), hI 11 _ (by omega)]; exact g13,
    by rw [hJ 14 _ (by omega), hI 11 _ (by omega)]; exact g14⟩
theorem mR_drop {n : Nat} {I : sI} {O : sO} {J : sI} (h : mR n I O J) {j : Nat} : mR n (upI I 5 j 0) O (upI J 6 j (-1)) := by
  obtain ⟨g0, g1, g2, g3, g4, g5, g6, g7, g8, g9, g10, g11, g12, g13, g14⟩ := h
  have hJ : ∀ k x, ¬ (k = 6 ∧ x = j) → (upI J 6 j (-1)) k x = J k x := fun k x q => upI_n q
  have hI : ∀ k x, ¬ (k = 5 ∧ x = j) → (upI I 5 j 0) k x = I k x := fun k x q => upI_n q
  exact ⟨by rw [hJ 0 _ (by omega)]; exact g0,
    fun i hi => by rw [hJ 1 _ (by omega), hI 0 _ (by omega)]; exact g1 i hi,
    fun i hi => by rw [hJ 2 _ (by omega), hI 1 _ (by omega)]; exact g2 i hi,
    fun i hi => by rw [hJ 3 _ (by omega)]; exact g3 i hi,
    fun t ht => by rw [hJ 4 _ (by omega)]; exact g4 t ht,
    fun t ht => by rw [hJ 5 _ (by omega), hI 4 _ (by omega)]; exact g5 t ht,
    fun r hr => by
      by_cases z : r = j
      · subst z; rw [upI_s, upI_s, pif_t rfl]
      · rw [hJ 6 r (by omega), hI 5 r (by omega), hI 7 r (by omega)]; exact g6 r hr,
    fun r hr => by rw [hJ 7 _ (by omega), hI 6 _ (by omega)]; exact g7 r hr,
    fun r i hr hi h5 h7 => by
      by_cases z : r = j
      · subst z; rw [upI_s] at h5; exact absurd rfl h5
      · rw [hI 5 r (by omega)] at h5; rw [hI 7 r (by omega)] at h7; rw [hJ 8 _ (by omega)]; exact g8 r i hr hi h5 h7,
    fun t ht => by rw [hJ 9 _ (by omega), hI 8 _ (by omega), hI 9 _ (by omega)]; exact g9 t ht,
    fun t ht => by rw [hJ 10 _ (by omega), hI 10 _ (by omega)]; exact g10 t ht,
    fun t c ht hc => by rw [hJ 11 _ (by omega), hI (20 + t) _ (by omega)]; exact g11 t c ht hc,
    by rw [hJ 12 _ (by omega), hI 11 _ (by omega)]; exact g12,
    by rw [hJ 13 _ (by omega), hI 11 _ (by omega)]; exact g13,
    by rw [hJ 14 _ (by omega), hI 11 _ (by omega)]; exact g14⟩
theorem mR_place {n : Nat} {I : sI} {O : sO} {J : sI} (h : mR n I O J) {s p x0 : Nat} (hs : s < 4) (hp : p < 12) : mR n I (upO O (2 + s) p (some x0)) (upI J 8 (12 * s + p) (nI x0)) := by
  obtain ⟨g0, g1, g2, g3, g4, g5, g6, g7, g8, g9, g10, g11, g12, g13, g14⟩ := h
  have hJ : ∀ k x, ¬ (k = 8 ∧ x = 12 * s + p) → (upI J 8 (12 * s + p) (nI x0)) k x = J k x := fun k x q => upI_n q
  have hO : ∀ k x, ¬ (k = 2 + s ∧ x = p) → (upO O (2 + s) p (some x0)) k x = O k x := fun k x q => upO_n q
  exact ⟨by rw [hJ 0 _ (by omega)]; exact g0,
    fun i hi => by rw [hJ 1 _ (by omega)]; exact g1 i hi,
    fun i hi => by rw [hJ 2 _ (by omega)]; exact g2 i hi,
    fun i hi => by rw [hJ 3 _ (by omega), hO 0 _ (by omega)]; exact g3 i hi,
    fun t ht => by rw [hJ 4 _ (by omega), hO 1 _ (by omega)]; exact g4 t ht,
    fun t ht => by rw [hJ 5 _ (by omega)]; exact g5 t ht,
    fun r hr => by rw [hJ 6 _ (by omega)]; exact g6 r hr,
    fun r hr => by rw [hJ 7 _ (by omega)]; exact g7 r hr,
    fun r i hr hi h5 h7 => by
      by_cases z : r = s ∧ i = p
      · rw [z.1, z.2, upI_s, upO_s]; rfl
      · rw [hJ 8 _ (by omega), hO (2 + r) _ (by omega)]; exact g8 r i hr hi h5 h7,
    fun t ht => by rw [hJ 9 _ (by omega)]; exact g9 t ht,
    fun t ht => by rw [hJ 10 _ (by omega)]; exact g10 t ht,
    fun t c ht hc => by rw [hJ 11 _ (by omega)]; exact g11 t c ht hc,
    by rw [hJ 12 _ (by omega)]; exact g12,
    by rw [hJ 13 _ (by omega)]; exact g13,
    by rw [hJ 14 _ (by omega)]; exact g14⟩
