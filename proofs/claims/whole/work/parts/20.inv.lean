/-! THE INVARIANT IS KEPT -/
theorem y_same {n : Nat} {I I1 : sI} {O O1 : sO} (h : yI n I O) (hI : ∀ g x, (g = 0 ∨ g = 2 ∨ g = 3 ∨ g = 5 ∨ g = 7 ∨ g = 8 ∨ g = 9 ∨ g = 10) → I1 g x = I g x) (hO : ∀ g x, g < 2 → O1 g x = O g x) (hx : xI n O1) : yI n I1 O1 := by
  obtain ⟨-, h2, h3, h4, h5, h6, h7, h8, h9⟩ := h
  refine ⟨hx, fun i j q => ?_, fun j hj q => ?_, fun i i' j q q' => ?_, fun t j q => ?_, fun j hj q => ?_, fun r q => ?_, fun t q => ?_, fun i hi => ?_⟩
  · rw [hO 0 i (by omega)] at q
    rw [hI 2 j (by omega)]
    exact h2 i j q
  · rw [hI 2 j (by omega)] at q
    obtain ⟨i, e⟩ := h3 j hj q
    exact ⟨i, by rw [hO 0 i (by omega)]; exact e⟩
  · rw [hO 0 _ (by omega)] at q q'
    exact h4 i i' j q q'
  · rw [hO 1 t (by omega)] at q
    rw [hI 3 j (by omega)]
    exact h5 t j q
  · rw [hI 3 j (by omega)] at q
    obtain ⟨t, e⟩ := h6 j hj q
    exact ⟨t, by rw [hO 1 t (by omega)]; exact e⟩
  · rw [hI 5 r (by omega)] at q
    rw [hI 7 r (by omega)]
    exact h7 r q
  · rw [hI 8 t (by omega)] at q
    rw [hI 9 t (by omega), hI 10 t (by omega)]
    exact h8 t q
  · rw [hI 0 i (by omega)]
    exact h9 i hi
theorem y_tl {n : Nat} {I : sI} {O : sO} (h : yI n I O) (f c : Int32) : yI n (tl I f c) O := y_same h (fun g x q => tl_ne (by omega)) (fun _ _ _ => rfl) h.1
theorem y_up {n : Nat} {I : sI} {O : sO} (h : yI n I O) {f i : Nat} {v : Int32} (hf : f = 1 ∨ f = 4 ∨ f = 6 ∨ 11 ≤ f) : yI n (upI I f i v) O := y_same h (fun g x q => upI_n (by omega)) (fun _ _ _ => rfl) h.1
theorem xI_up {n f i : Nat} {O : sO} {o : Option Nat} (h : xI n O) (hf : ¬ f = 0) (ho : ∀ j, o = some j → j < n) : xI n (upO O f i o) := by
  refine ⟨h.1, fun g x j q => ?_, fun y => ?_⟩
  · by_cases z : g = f ∧ x = i
    · rw [z.1, z.2, upO_s] at q; exact ho j q
    · rw [upO_n z] at q; exact h.2.1 g x j q
  · have : upO O f i o 0 = O 0 := by funext x; exact upO_n (by omega)
    rw [this]; exact h.2.2 y
theorem y_couple {n : Nat} {I : sI} {O : sO} (h : yI n I O) {i j : Nat} (hi : i < n) (hj : j < n) (h0 : O 0 i = none) (h2j : I 2 j = 0) (hc : ¬ cin (O 0) (some j) i) : yI n (upI I 2 j 1) (upO O 0 i (some j)) := by
  obtain ⟨hx, h2, h3, h4, h5, h6, h7, h8, h9⟩ := h
  have hno : ∀ x, ¬ O 0 x = some j := fun x q => (h2 x j q).2 h2j
  have hO1 : ∀ g x, ¬ g = 0 → upO O 0 i (some j) g x = O g x := fun g x q => upO_n (fun z => q z.1)
  have hI1 : ∀ g x, ¬ g = 2 → upI I 2 j 1 g x = I g x := fun g x q => upI_n (fun z => q z.1)
  refine ⟨⟨hx.1, fun g x y q => ?_, fun o => ?_⟩, fun x y q => ?_, fun y hy q => ?_, fun x x' y q q' => ?_, fun t y q => ?_, fun y hy q => ?_, fun r q => ?_, fun t q => ?_, fun x hx0 => ?_⟩
  · by_cases z : g = 0 ∧ x = i
    · rw [z.1, z.2, upO_s] at q; cases q; exact hj
    · rw [upO_n z] at q; exact hx.2.1 g x y q
  · obtain ⟨k, hk⟩ := hx.2.2 o
    exact fin_couple (x := i) (y := j) (fun x hx0 => upO_n (fun z => hx0 z.2)) (upO_s _ _ _ _) (hx.2.2 (some j)) hc k o hk
  · by_cases z : x = i
    · subst z
      rw [upO_s] at q
      cases q
      exact ⟨hi, by rw [upI_s]; decide⟩
    · rw [upO_n (fun w => z w.2)] at q
      refine ⟨(h2 x y q).1, ?_⟩
      rw [upI_n (fun w => hno x (by rw [← w.2]; exact q))]
      exact (h2 x y q).2
  · by_cases z : y = j
    · exact ⟨i, by rw [upO_s, z]⟩
    · rw [upI_n (fun w => z w.2)] at q
      obtain ⟨x, e⟩ := h3 y hy q
      refine ⟨x, ?_⟩
      rw [upO_n (fun w => by rw [w.2, h0] at e; cases e)]
      exact e
  · by_cases z : x = i
    · subst z
      rw [upO_s] at q
      cases q
      by_cases z' : x' = x
      · exact z'.symm
      · rw [upO_n (fun w => z' w.2)] at q'
        exact absurd q' (hno x')
    · rw [upO_n (fun w => z w.2)] at q
      by_cases z' : x' = i
      · subst z'
        rw [upO_s] at q'
        cases q'
        exact absurd q (hno x)
      · rw [upO_n (fun w => z' w.2)] at q'
        exact h4 x x' y q q'
  · rw [hO1 1 t (by decide)] at q
    rw [hI1 3 y (by decide)]
    exact h5 t y q
  · rw [hI1 3 y (by decide)] at q
    obtain ⟨t, e⟩ := h6 y hy q
    exact ⟨t, by rw [hO1 1 t (by decide)]; exact e⟩
  · rw [hI1 5 r (by decide)] at q
    rw [hI1 7 r (by decide)]
    exact h7 r q
  · rw [hI1 8 t (by decide)] at q
    rw [hI1 9 t (by decide), hI1 10 t (by decide)]
    exact h8 t q
  · rw [hI1 0 x (by decide)]
    exact h9 x hx0
theorem y_cut {n : Nat} {I : sI} {O : sO} (h : yI n I O) {w b : Nat} (hb : O 0 w = some b) : yI n (upI I 2 b 0) (upO O 0 w none) := by
  obtain ⟨hx, h2, h3, h4, h5, h6, h7, h8, h9⟩ := h
  have hO1 : ∀ g x, ¬ g = 0 → upO O 0 w none g x = O g x := fun g x q => upO_n (fun z => q z.1)
  have hI1 : ∀ g x, ¬ g = 2 → upI I 2 b 0 g x = I g x := fun g x q => upI_n (fun z => q z.1)
  have hO0 : ∀ x y, upO O 0 w none 0 x = some y → ¬ x = w ∧ O 0 x = some y := fun x y q => by
    by_cases z : x = w
    · subst z; rw [upO_s] at q; cases q
    · rw [upO_n (fun u => z u.2)] at q; exact ⟨z, q⟩
  refine ⟨⟨hx.1, fun g x y q => ?_, fun o => ?_⟩, fun x y q => ?_, fun y hy q => ?_, fun x x' y q q' => ?_, fun t y q => ?_, fun y hy q => ?_, fun r q => ?_, fun t q => ?_, fun x hx0 => ?_⟩
  · by_cases z : g = 0 ∧ x = w
    · rw [z.1, z.2, upO_s] at q; cases q
    · rw [upO_n z] at q; exact hx.2.1 g x y q
  · obtain ⟨k, hk⟩ := hx.2.2 o
    refine fin_cut (b := O 0) (fun x => ?_) k o hk
    by_cases z : x = w
    · subst z; exact Or.inr (upO_s _ _ _ _)
    · exact Or.inl (upO_n (fun u => z u.2))
  · obtain ⟨z, q⟩ := hO0 x y q
    refine ⟨(h2 x y q).1, ?_⟩
    rw [upI_n (fun u => z (h4 x w b (by rw [← u.2]; exact q) hb))]
    exact (h2 x y q).2
  · by_cases z : y = b
    · subst z; rw [upI_s] at q; exact absurd rfl q
    · rw [upI_n (fun u => z u.2)] at q
      obtain ⟨x, e⟩ := h3 y hy q
      refine ⟨x, ?_⟩
      rw [upO_n (fun u => z (by rw [u.2, hb] at e; exact (Option.some.inj e).symm))]
      exact e
  · exact h4 x x' y (hO0 x y q).2 (hO0 x' y q').2
  · rw [hO1 1 t (by decide)] at q
    rw [hI1 3 y (by decide)]
    exact h5 t y q
  · rw [hI1 3 y (by decide)] at q
    obtain ⟨t, e⟩ := h6 y hy q
    exact ⟨t, by rw [hO1 1 t (by decide)]; exact e⟩
  · rw [hI1 5 r (by decide)] at q
    rw [hI1 7 r (by decide)]
    exact h7 r q
  · rw [hI1 8 t (by decide)] at q
    rw [hI1 9 t (by decide), hI1 10 t (by decide)]
    exact h8 t q
  · rw [hI1 0 x (by decide)]
    exact h9 x hx0
theorem clr_ne {I : sI} {o : Option Nat} {g x : Nat} (h : ¬ (g = 3 ∧ o = some x)) : clr I o g x = I g x := by
  cases o with
  | none => rfl
  | some b => exact upI_n (fun z => h ⟨z.1, by rw [z.2]⟩)
theorem clr_s {I : sI} {b : Nat} : clr I (some b) 3 b = -1 := upI_s _ _ _ _
/-- another (or none) stands first on track k -/
theorem y_stand {n : Nat} {I I1 : sI} {O : sO} (h : yI n I O) {k : Nat} {o : Option Nat} (hk : k < 6) (ho : ∀ j, o = some j → j < n ∧ I 3 j = -1) (hI : ∀ g x, ¬ g = 3 → I1 g x = I g x) (ha : ∀ j, o = some j → I1 3 j = nI k) (hb : ∀ j, O 1 k = some j → ¬ o = some j → I1 3 j = -1) (hc : ∀ j, ¬ O 1 k = some j → ¬ o = some j → I1 3 j = I 3 j) : yI n I1 (upO O 1 k o) := by
  obtain ⟨hx, h2, h3, h4, h5, h6, h7, h8, h9⟩ := h
  have hO1 : ∀ g x, ¬ g = 1 → upO O 1 k o g x = O g x := fun g x q => upO_n (fun z => q z.1)
  refine ⟨xI_up hx (by decide) (fun j q => (ho j q).1), fun x y q => ?_, fun y hy q => ?_, fun x x' y q q' => ?_, fun t y q => ?_, fun y hy q => ?_, fun r q => ?_, fun t q => ?_, fun x hx0 => ?_⟩
  · rw [hO1 0 x (by decide)] at q
    rw [hI 2 y (by decide)]
    exact h2 x y q
  · rw [hI 2 y (by decide)] at q
    obtain ⟨x, e⟩ := h3 y hy q
    exact ⟨x, by rw [hO1 0 x (by decide)]; exact e⟩
  · rw [hO1 0 _ (by decide)] at q q'
    exact h4 x x' y q q'
  · by_cases z : t = k
    · subst z
      rw [upO_s] at q
      exact ⟨hk, ha y q⟩
    · rw [upO_n (fun u => z u.2)] at q
      obtain ⟨e1, e2⟩ := h5 t y q
      refine ⟨e1, ?_⟩
      have n1 : ¬ O 1 k = some y := fun u => by
        have e3 := (h5 k y u).2
        rw [e2, nI_eq (by omega) (by omega)] at e3
        exact z e3
      have n2 : ¬ o = some y := fun u => by
        have e3 := (ho y u).2
        rw [e2] at e3
        exact nI_m1 (by omega) e3
      rw [hc y n1 n2]
      exact e2
  · by_cases z : o = some y
    · exact ⟨k, by rw [upO_s]; exact z⟩
    · by_cases z2 : O 1 k = some y
      · exact absurd (hb y z2 z) q
      · rw [hc y z2 z] at q
        obtain ⟨t, e⟩ := h6 y hy q
        refine ⟨t, ?_⟩
        rw [upO_n (fun u => z2 (by rw [← u.2]; exact e))]
        exact e
  · rw [hI 5 r (by decide)] at q
    rw [hI 7 r (by decide)]
    exact h7 r q
  · rw [hI 8 t (by decide)] at q
    rw [hI 9 t (by decide), hI 10 t (by decide)]
    exact h8 t q
  · rw [hI 0 x (by decide)]
    exact h9 x hx0
theorem y_size {n : Nat} {I I1 : sI} {O O1 : sO} (h : yI n I O) (hI : ∀ g x, (g = 0 ∨ g = 2 ∨ g = 3) → I1 g x = I g x) (hO : ∀ g x, g < 2 → O1 g x = O g x) (hx : xI n O1) (h7 : ∀ r, ¬ I1 5 r = 0 → ∃ c, c ≤ 12 ∧ I1 7 r = nI c) (h8 : ∀ t, ¬ I1 8 t = 0 → ∃ c d, c ≤ 12 ∧ d ≤ 6 ∧ I1 9 t = nI c ∧ I1 10 t = nI d) : yI n I1 O1 := by
  obtain ⟨-, h2, h3, h4, h5, h6, -, -, h9⟩ := h
  refine ⟨hx, fun i j q => ?_, fun j hj q => ?_, fun i i' j q q' => ?_, fun t j q => ?_, fun j hj q => ?_, h7, h8, fun i hi => ?_⟩
  · rw [hO 0 i (by omega)] at q
    rw [hI 2 j (by omega)]
    exact h2 i j q
  · rw [hI 2 j (by omega)] at q
    obtain ⟨i, e⟩ := h3 j hj q
    exact ⟨i, by rw [hO 0 i (by omega)]; exact e⟩
  · rw [hO 0 _ (by omega)] at q q'
    exact h4 i i' j q q'
  · rw [hO 1 t (by omega)] at q
    rw [hI 3 j (by omega)]
    exact h5 t j q
  · rw [hI 3 j (by omega)] at q
    obtain ⟨t, e⟩ := h6 j hj q
    exact ⟨t, by rw [hO 1 t (by omega)]; exact e⟩
  · rw [hI 0 i (by omega)]
    exact h9 i hi
theorem y_wagon {n : Nat} {I : sI} {O : sO} {k v : Int32} (h : yI n I O) (hn : n < 40) (hk : isKd k) : yI (n + 1) (wI I n k v) (upO O 0 n none) := by
  obtain ⟨hx, h2, h3, h4, h5, h6, h7, h8, h9⟩ := h
  have hI4 : ∀ g x, ¬ (g < 4 ∧ x = n) → wI I n k v g x = I g x := fun g x q => wI_ne q
  have hO0 : ∀ g x y, upO O 0 n none g x = some y → O g x = some y := fun g x y q => by
    by_cases z : g = 0 ∧ x = n
    · rw [z.1, z.2, upO_s] at q; cases q
    · rw [upO_n z] at q; exact q
  have hOn : ∀ g x y, O g x = some y → upO O 0 n none g x = some y := fun g x y q => by
    rw [upO_n (fun z => by
      rw [z.1, z.2] at q
      have := (h2 n y q).1
      omega)]
    exact q
  have hlt : ∀ g x y, O g x = some y → ¬ y = n := fun g x y q z => by
    have := hx.2.1 g x y q
    omega
  refine ⟨⟨by omega, fun g x y q => ?_, fun o => ?_⟩, fun x y q => ?_, fun y hy q => ?_, fun x x' y q q' => h4 x x' y (hO0 0 x y q) (hO0 0 x' y q'), fun t y q => ?_, fun y hy q => ?_, fun r q => ?_, fun t q => ?_, fun x hx0 => ?_⟩
  · have := hx.2.1 g x y (hO0 g x y q)
    omega
  · obtain ⟨j, hj⟩ := hx.2.2 o
    refine fin_cut (b := O 0) (fun x => ?_) j o hj
    by_cases z : x = n
    · subst z; exact Or.inr (upO_s _ _ _ _)
    · exact Or.inl (upO_n (fun u => z u.2))
  · have q := hO0 0 x y q
    rw [hI4 2 y (fun z => hlt 0 x y q z.2)]
    have := h2 x y q
    exact ⟨by omega, this.2⟩
  · by_cases z : y = n
    · subst z
      exact absurd (by simp [wI, upI]) q
    · rw [hI4 2 y (fun u => z u.2)] at q
      obtain ⟨x, e⟩ := h3 y (by omega) q
      exact ⟨x, hOn 0 x y e⟩
  · have q := hO0 1 t y q
    rw [hI4 3 y (fun z => hlt 1 t y q z.2)]
    exact h5 t y q
  · by_cases z : y = n
    · subst z
      exact absurd (by simp [wI, upI]) q
    · rw [hI4 3 y (fun u => z u.2)] at q
      obtain ⟨t, e⟩ := h6 y (by omega) q
      exact ⟨t, hOn 1 t y e⟩
  · rw [hI4 5 r (by omega)] at q
    rw [hI4 7 r (by omega)]
    exact h7 r q
  · rw [hI4 8 t (by omega)] at q
    rw [hI4 9 t (by omega), hI4 10 t (by omega)]
    exact h8 t q
  · by_cases z : x = n
    · subst z
      rw [show wI I x k v 0 x = k by simp [wI, upI]]
      exact hk
    · rw [hI4 0 x (fun u => z u.2)]
      exact h9 x (by omega)
theorem y_0 : yI 0 I0 O0 := by
  refine ⟨⟨by decide, fun f i j q => (by cases q), fun o => ?_⟩, fun i j q => (by cases q), fun j hj => (by omega), fun i i' j q => (by cases q), fun t j q => (by cases q), fun j hj => (by omega), fun r q => absurd rfl q, fun t q => absurd rfl q, fun i hi => (by omega)⟩
  cases o with
  | none => exact ⟨0, rfl⟩
  | some j => exact ⟨1, rfl⟩
theorem y_at {n : Nat} {I I1 : sI} {O O1 : sO} {t a r : Int32} {f : Nat → sI → sR} (h : yI n I O) (hf : ∀ w, w < n → f w (tl I 0 a) = (r, I1, O1) → yI n I1 O1) (e : sp_at I O t a f = (r, I1, O1)) : yI n I1 O1 := by
  unfold sp_at at e
  cases h6 : fnd 6 t with
  | none =>
    rw [h6] at e
    cases e
    exact h
  | some k =>
    rw [h6] at e
    dsimp only at e
    by_cases hb : a < 0 ∨ 40 < a
    · rw [pif_t hb] at e
      cases e
      exact h
    · rw [pif_f hb] at e
      cases hw : wk (O 0) a.toNatClampNeg (O 1 k) with
      | none =>
        rw [hw] at e
        cases e
        exact y_tl h _ _
      | some w =>
        rw [hw] at e
        exact hf w (xI_wk h.1 hw) e
section YS
variable {n : Nat} {I I1 : sI} {O O1 : sO} {r : Int32}
theorem ys_couple (h : yI n I O) {a b : Int32} (e : sp_couple n I O a b = (r, I1, O1)) : yI n I1 O1 := by
  unfold sp_couple at e
  cases ha : fnd n a with
  | none =>
    rw [ha] at e
    cases e
    exact h
  | some i =>
    rw [ha] at e
    dsimp only at e
    cases hb : fnd n b with
    | none =>
      rw [hb] at e
      cases e
      exact h
    | some j =>
      rw [hb] at e
      dsimp only at e
      by_cases hp : ¬ O 0 i = none ∨ ¬ I 2 j = 0 ∨ ¬ I 3 j = -1 ∨ cin (O 0) (some j) i
      · rw [pif_t hp] at e
        cases e
        exact h
      · rw [pif_f hp] at e
        cases e
        exact y_couple h (fnd_lt ha).1 (fnd_lt hb).1 (Classical.byContradiction fun z => hp (Or.inl z)) (Classical.byContradiction fun z => hp (Or.inr (Or.inl z))) (fun z => hp (Or.inr (Or.inr (Or.inr z))))
theorem ys_stand (h : yI n I O) {t a : Int32} (e : sp_stand n I O t a = (r, I1, O1)) : yI n I1 O1 := by
  unfold sp_stand at e
  cases ht : fnd 6 t with
  | none =>
    rw [ht] at e
    cases e
    exact h
  | some k =>
    obtain ⟨hk, rfl⟩ := fnd_lt ht
    rw [ht] at e
    dsimp only at e
    cases ha : fnd n a with
    | none =>
      rw [ha] at e
      dsimp only at e
      by_cases hp : a = -1
      · rw [pif_t hp] at e
        cases e
        refine y_stand h hk (fun j q => by cases q) (fun g x q => clr_ne (fun z => q z.1)) (fun j q => by cases q) (fun j q _ => ?_) (fun j q _ => clr_ne (fun z => q z.2))
        rw [q]
        exact clr_s
      · rw [pif_f hp] at e
        cases e
        exact h
    | some j =>
      rw [ha] at e
      dsimp only at e
      by_cases hp : ¬ I 2 j = 0 ∨ ¬ I 3 j = -1
      · rw [pif_t hp] at e
        cases e
        exact h
      · rw [pif_f hp] at e
        cases e
        refine y_stand h hk (fun y q => ?_) (fun g x q => ?_) (fun y q => ?_) (fun y q q2 => ?_) (fun y q q2 => ?_)
        · cases q
          exact ⟨(fnd_lt ha).1, Classical.byContradiction fun z => hp (Or.inr z)⟩
        · rw [upI_n (fun z => q z.1)]
          exact clr_ne (fun z => q z.1)
        · cases q
          exact upI_s _ _ _ _
        · rw [upI_n (fun z => q2 (by rw [z.2])), q]
          exact clr_s
        · rw [upI_n (fun z => q2 (by rw [z.2]))]
          exact clr_ne (fun z => q z.2)
theorem ys_signal (h : yI n I O) {t v : Int32} (e : sp_signal I O t v = (r, I1, O1)) : yI n I1 O1 := by
  unfold sp_signal at e
  cases ht : fnd 6 t with
  | none =>
    rw [ht] at e
    cases e
    exact h
  | some k =>
    rw [ht] at e
    dsimp only at e
    by_cases hp : v < -1
    · rw [pif_t hp] at e
      cases e
      exact h
    · rw [pif_f hp] at e
      cases e
      exact y_up h (by decide)
theorem ys_wagonAt (h : yI n I O) {t a : Int32} (e : sp_wagonAt I O t a = (r, I1, O1)) : yI n I1 O1 := y_at h (fun w hw q => by cases q; exact y_tl h _ _) e
theorem ys_load (h : yI n I O) {t a v : Int32} (e : sp_load I O t a v = (r, I1, O1)) : yI n I1 O1 := y_at h (fun w hw q => by cases q; exact y_up (y_tl h _ _) (by decide)) e
theorem ys_cut (h : yI n I O) {t a : Int32} (e : sp_cut I O t a = (r, I1, O1)) : yI n I1 O1 := by
  refine y_at h (fun w hw q => ?_) e
  cases hb : O 0 w with
  | none =>
    simp only [hb] at q
    cases q
    exact y_tl h _ _
  | some b =>
    simp only [hb] at q
    cases q
    exact y_cut (y_tl h _ _) hb
theorem ys_hoot (h : yI n I O) {t a : Int32} (e : sp_hoot I O t a = (r, I1, O1)) : yI n I1 O1 := y_at h (fun w hw q => by cases q; exact y_tl h _ _) e
theorem ys_pull (h : yI n I O) {t a : Int32} (e : sp_pull I O t a = (r, I1, O1)) : yI n I1 O1 := by
  refine y_at h (fun w hw q => ?_) e
  by_cases hp : isOf (I 0 w) 3
  · rw [pif_t hp] at q
    cases q
    exact y_tl h _ _
  · rw [pif_f hp] at q
    cases q
    exact y_tl (y_tl h _ _) _ _
theorem ys_loadAs (h : yI n I O) {t a k : Int32} (e : sp_loadAs I O t a k = (r, I1, O1)) : yI n I1 O1 := by
  unfold sp_loadAs at e
  by_cases hk : isKd k
  · rw [pif_t hk] at e
    refine y_at h (fun w hw q => ?_) e
    by_cases hp : isOf (I 0 w) k
    · rw [pif_t hp] at q
      cases q
      exact y_tl h _ _
    · rw [pif_f hp] at q
      cases q
      exact y_tl (y_tl h _ _) _ _
  · rw [pif_f hk] at e
    cases ht : fnd 6 t with
    | none =>
      rw [ht] at e
      cases e
      exact h
    | some k =>
      rw [ht] at e
      cases e
      exact h
theorem ys_rake (h : yI n I O) {q k c : Int32} (e : sp_rake I O q k c = (r, I1, O1)) : yI n I1 O1 := by
  unfold sp_rake at e
  cases ht : fnd 4 q with
  | none =>
    rw [ht] at e
    cases e
    exact h
  | some j =>
    rw [ht] at e
    dsimp only at e
    by_cases hp : ¬ isKd k ∨ 12 < c
    · rw [pif_t hp] at e
      cases e
      exact h
    · rw [pif_f hp] at e
      by_cases hc : c < 0
      · rw [pif_t hc] at e
        cases e
        exact y_tl h _ _
      · rw [pif_f hc] at e
        cases e
        obtain ⟨c1, hc1, rfl⟩ := nI_12 (Int32.not_lt.mp hc) (Int32.not_lt.mp (fun z => hp (Or.inr z)))
        refine y_tl (y_size h (fun g x z => ?_) (fun g x z => clrO_ne (by omega)) (xI_clr h.1 (by omega)) (fun s z => ?_) (fun s z => ?_)) _ _
        · rw [upI_n (by omega), upI_n (by omega), upI_n (by omega)]
        · by_cases y : s = j
          · subst y
            exact ⟨c1, hc1, upI_s _ _ _ _⟩
          · rw [upI_n (by omega), upI_n (by omega), upI_n (by omega)] at z
            rw [upI_n (by omega), upI_n (by omega), upI_n (by omega)]
            exact h.2.2.2.2.2.2.1 s z
        · rw [upI_n (by omega), upI_n (by omega), upI_n (by omega)] at z
          rw [upI_n (by omega), upI_n (by omega), upI_n (by omega), upI_n (by omega), upI_n (by omega), upI_n (by omega)]
          exact h.2.2.2.2.2.2.2.1 s z
theorem ys_drop (h : yI n I O) {q : Int32} (e : sp_drop I O q = (r, I1, O1)) : yI n I1 O1 := by
  unfold sp_drop at e
  cases ht : fnd 4 q with
  | none =>
    rw [ht] at e
    cases e
    exact h
  | some j =>
    rw [ht] at e
    cases e
    refine y_size h (fun g x z => upI_n (by omega)) (fun _ _ _ => rfl) h.1 (fun s z => ?_) (fun s z => ?_)
    · by_cases y : s = j
      · subst y
        rw [upI_s] at z
        exact absurd rfl z
      · rw [upI_n (by omega)] at z
        rw [upI_n (by omega)]
        exact h.2.2.2.2.2.2.1 s z
    · rw [upI_n (by omega)] at z
      rw [upI_n (by omega), upI_n (by omega)]
      exact h.2.2.2.2.2.2.2.1 s z
theorem ly_keep {j : Nat} : ∀ (f d : Nat) (o : Option Nat) (Q : sO), xI n Q → (∀ y, o = some y → y < n) → xI n (ly I j f d o Q).2.2 ∧ ∀ g x, g < 2 → (ly I j f d o Q).2.2 g x = Q g x := by
  intro f
  induction f with
  | zero => intro d o Q h _; exact ⟨h, fun _ _ _ => rfl⟩
  | succ f ih =>
    intro d o Q h ho
    cases o with
    | none => exact ⟨h, fun _ _ _ => rfl⟩
    | some w =>
      by_cases h1 : nI d < I 7 j
      · by_cases h2 : isOf (I 0 w) (I 6 j)
        · rw [ly_go h1 h2]
          obtain ⟨a1, a2⟩ := ih (d + 1) (Q 0 w) (upO Q (2 + j) d (some w)) (xI_row h (by omega) (ho w rfl)) (fun y q => h.2.1 0 w y q)
          exact ⟨a1, fun g x z => by rw [a2 g x z, upO_n (by omega)]⟩
        · rw [ly_5 h1 h2]
          exact ⟨h, fun _ _ _ => rfl⟩
      · rw [ly_3 h1]
        exact ⟨h, fun _ _ _ => rfl⟩
theorem ys_lay (h : yI n I O) {q t : Int32} (e : sp_lay I O q t = (r, I1, O1)) : yI n I1 O1 := by
  unfold sp_lay at e
  cases h4 : fnd 4 q with
  | none =>
    rw [h4] at e
    cases e
    exact h
  | some j =>
    rw [h4] at e
    dsimp only at e
    cases h6 : fnd 6 t with
    | none =>
      rw [h6] at e
      cases e
      exact h
    | some k =>
      rw [h6] at e
      dsimp only at e
      by_cases hp : I 5 j = 0 ∨ O 1 k = none
      · rw [pif_t hp] at e
        cases e
        exact y_tl h _ _
      · rw [pif_f hp] at e
        obtain ⟨a1, a2⟩ := ly_keep (I := I) (j := j) 13 0 (O 1 k) O h.1 (fun y z => h.1.2.1 1 k y z)
        have hy : yI n I (ly I j 13 0 (O 1 k) O).2.2 := y_same h (fun _ _ _ => rfl) a2 a1
        generalize ly I j 13 0 (O 1 k) O = G at e hy
        by_cases hz : G.1 = 0
        · rw [pif_t hz] at e
          cases e
          exact y_tl hy _ _
        · rw [pif_f hz] at e
          have ea : tl I G.1 (nI G.2.1) = I1 := congrArg (fun z : sR => z.2.1) e
          have eb : G.2.2 = O1 := congrArg (fun z : sR => z.2.2) e
          rw [← ea, ← eb]
          exact y_tl hy _ _
theorem ys_places (h : yI n I O) {q : Int32} (e : sp_places I O q = (r, I1, O1)) : yI n I1 O1 := by
  unfold sp_places at e
  cases ht : fnd 4 q with
  | none =>
    rw [ht] at e
    cases e
    exact h
  | some j =>
    rw [ht] at e
    dsimp only at e
    by_cases hp : I 5 j = 0
    · rw [pif_t hp] at e
      cases e
      exact y_tl h _ _
    · rw [pif_f hp] at e
      cases e
      exact y_tl h _ _
theorem ys_loadOn (h : yI n I O) {q i : Int32} (e : sp_loadOn I O q i = (r, I1, O1)) : yI n I1 O1 := by
  unfold sp_loadOn at e
  cases ht : fnd 4 q with
  | none =>
    rw [ht] at e
    cases e
    exact h
  | some j =>
    rw [ht] at e
    dsimp only at e
    by_cases hp : I 5 j = 0
    · rw [pif_t hp] at e
      cases e
      exact y_tl h _ _
    · rw [pif_f hp] at e
      by_cases hq : i < 0 ∨ ¬ i < I 7 j
      · rw [pif_t hq] at e
        cases e
        exact y_tl h _ _
      · rw [pif_f hq] at e
        cases ho : O (2 + j) i.toNatClampNeg with
        | none =>
          rw [ho] at e
          cases e
          exact y_tl h _ _
        | some w =>
          rw [ho] at e
          cases e
          exact y_tl h _ _
theorem ys_table (h : yI n I O) {t a b : Int32} (e : sp_table I O t a b = (r, I1, O1)) : yI n I1 O1 := by
  unfold sp_table at e
  cases ht : fnd 2 t with
  | none =>
    rw [ht] at e
    cases e
    exact h
  | some j =>
    rw [ht] at e
    dsimp only at e
    by_cases hp : 12 < a ∨ b < 0 ∨ 6 < b
    · rw [pif_t hp] at e
      cases e
      exact h
    · rw [pif_f hp] at e
      by_cases hc : a < 0
      · rw [pif_t hc] at e
        cases e
        exact y_tl h _ _
      · rw [pif_f hc] at e
        cases e
        obtain ⟨c1, hc1, rfl⟩ := nI_12 (Int32.not_lt.mp hc) (Int32.not_lt.mp (fun z => hp (Or.inl z)))
        obtain ⟨d1, hd1, rfl⟩ := nI_of (x := b) (fun z => hp (Or.inr (Or.inl z)))
        have hd6 : d1 ≤ 6 := by
          rcases Nat.lt_or_ge 6 d1 with z | z
          · exact absurd (Or.inr (Or.inr (nI_lt z hd1))) hp
          · exact z
        refine y_tl (y_size h (fun g x z => ?_) (fun _ _ _ => rfl) h.1 (fun s z => ?_) (fun s z => ?_)) _ _
        · rw [clrI_ne (by omega), upI_n (by omega), upI_n (by omega), upI_n (by omega)]
        · rw [clrI_ne (by omega), upI_n (by omega), upI_n (by omega), upI_n (by omega)] at z
          rw [clrI_ne (by omega), upI_n (by omega), upI_n (by omega), upI_n (by omega)]
          exact h.2.2.2.2.2.2.1 s z
        · by_cases y : s = j
          · subst y
            exact ⟨c1, d1, hc1, hd6, by rw [clrI_ne (by omega), upI_n (by omega), upI_s], by rw [clrI_ne (by omega), upI_s]⟩
          · rw [clrI_ne (by omega), upI_n (by omega), upI_n (by omega), upI_n (by omega)] at z
            rw [clrI_ne (by omega), upI_n (by omega), upI_n (by omega), upI_n (by omega), clrI_ne (by omega), upI_n (by omega), upI_n (by omega), upI_n (by omega)]
            exact h.2.2.2.2.2.2.2.1 s z
theorem ys_add (h : yI n I O) {t a b v : Int32} (e : sp_add I O t a b v = (r, I1, O1)) : yI n I1 O1 := by
  unfold sp_add at e
  cases ht : fnd 2 t with
  | none =>
    rw [ht] at e
    cases e
    exact h
  | some j =>
    rw [ht] at e
    dsimp only at e
    by_cases hp : I 8 j = 0
    · rw [pif_t hp] at e
      cases e
      exact y_tl h _ _
    · rw [pif_f hp] at e
      by_cases hq : a < 0 ∨ ¬ a < I 9 j ∨ b < 0 ∨ ¬ b < I 10 j
      · rw [pif_t hq] at e
        cases e
        exact y_tl h _ _
      · rw [pif_f hq] at e
        cases e
        exact y_tl (y_up h (by omega)) _ _
theorem ys_raise (h : yI n I O) {t : Int32} (e : sp_raise I O t = (r, I1, O1)) : yI n I1 O1 := by
  unfold sp_raise at e
  cases ht : fnd 6 t with
  | none =>
    rw [ht] at e
    cases e
    exact h
  | some k =>
    rw [ht] at e
    dsimp only at e
    by_cases hp : I 4 k = -1
    · rw [pif_t hp] at e
      cases e
      exact y_tl h _ _
    · rw [pif_f hp] at e
      cases e
      exact y_up (y_tl h _ _) (by decide)
theorem ys_wagon {n1 : Nat} (h : yI n I O) {k v : Int32} (e : sp_wagon n I O k v = (r, n1, I1, O1)) : yI n1 I1 O1 := by
  unfold sp_wagon at e
  by_cases hk : isKd k
  · rw [pif_t hk] at e
    by_cases hn : n = 40
    · rw [if_pos hn] at e
      cases e
      exact h
    · rw [if_neg hn] at e
      cases e
      exact y_wagon h (by have := h.1.1; omega) hk
  · rw [pif_f hk] at e
    cases e
    exact h
end YS
