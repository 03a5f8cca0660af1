/-! THE MAKING OF A YARD: with a tracks, b rakes, c tables made -/
def iV (a b c : Nat) : Nat → Nat → Prop := fun k i => match k with
  | 0 => i = 0
  | 1 => i = 0
  | 2 => i = 0
  | 3 => i = 0
  | 4 => i = 0
  | 5 => False
  | 6 => i < a
  | 7 => i < b
  | 8 => i < b
  | 9 => i < c
  | 10 => i < c
  | _ => False
def iE (kk : Nat → ClassId) (ad : Nat → Nat → Nat) (a b c : Nat) : Nat → Nat → va_E := fun k i => match k with
  | 0 => .inr (4, [.ref (ad 1 0), .int 0, .ref (ad 2 0), .ref (ad 3 0), .ref (ad 4 0), .int 0, .int 0, .int 0])
  | 1 => .inl (kk 1, 40, .inr (.inr (.inr (.inr (fun _ => none)))))
  | 2 => .inl (kk 2, 6, .inr (.inr (.inr (.inr (fun j => if j < a then some (ad 6 j) else none)))))
  | 3 => .inl (kk 3, 4, .inr (.inr (.inr (.inr (fun j => if j < b then some (ad 7 j) else none)))))
  | 4 => .inl (kk 4, 2, .inr (.inr (.inr (.inr (fun j => if j < c then some (ad 9 j) else none)))))
  | 6 => .inr (2, [.null, .int (-1)])
  | 7 => .inr (0, [.int 0, .int 0, .int 0, .ref (ad 8 i)])
  | 8 => .inl (kk 1, 12, .inr (.inr (.inr (.inr (fun _ => none)))))
  | 9 => .inr (1, [.int 0, .int 0, .int 0, .ref (ad 10 i)])
  | 10 => .inl (kk 0, 72, .inl (fun _ => 0))
  | _ => .inl (kk 0, 0, .inl (fun _ => 0))
noncomputable abbrev iw (kk : Nat → ClassId) (ad : Nat → Nat → Nat) (a b c : Nat) : fw_W := sw (iV a b c) ad (iE kk ad a b c)
theorem fw_nn {w : fw_W} {a b : Nat} {e : va_E} (h : fw_up w a e b = none) : b ≠ a ∧ w b = none := by
  by_cases q : b = a
  · subst q; rw [fw_up_self] at h; cases h
  · rw [fw_up_ne q] at h; exact ⟨q, h⟩
theorem fw_mk {w : fw_W} {a b : Nat} {e0 e1 e2 : va_E} (h : b ≠ a) : fw_up (fw_up (fw_up w a e0) b e1) a e2 = fw_up (fw_up w a e2) b e1 := by
  rw [fw_up_comm (a := a) (b := b) (fun z => h z.symm), fw_up_up, fw_up_comm h]
theorem va_row {g : Nat → Nat} {g' : Nat → Nat} {d q : Nat} (h : ∀ j, j < d → g' j = g j) (hd : g' d = q) : (fun j => if j < d + 1 then some (g' j) else none) = va_up (fun j => if j < d then some (g j) else none) d (some q) := by
  funext j
  unfold va_up
  by_cases h1 : j = d
  · subst h1; rw [if_pos (by omega), if_pos rfl, hd]
  · rw [if_neg h1]
    show _ = (if j < d then some (g j) else none)
    by_cases h2 : j < d
    · rw [if_pos (by omega), if_pos h2, h j h2]
    · rw [if_neg (by omega), if_neg h2]
section IS
variable {kk : Nat → ClassId} {ad : Nat → Nat → Nat} {a b c : Nat}
theorem i_at0 (hj : sj (iV a b c) ad) : iw kk ad a b c (ad 0 0) = some (.inr (4, [.ref (ad 1 0), .int 0, .ref (ad 2 0), .ref (ad 3 0), .ref (ad 4 0), .int 0, .int 0, .int 0])) := sw_at hj (k := 0) (i := 0) rfl
theorem i_at2 (hj : sj (iV a b c) ad) : iw kk ad a b c (ad 2 0) = some (.inl (kk 2, 6, .inr (.inr (.inr (.inr (fun j => if j < a then some (ad 6 j) else none)))))) := sw_at hj (k := 2) (i := 0) rfl
theorem i_at3 (hj : sj (iV a b c) ad) : iw kk ad a b c (ad 3 0) = some (.inl (kk 3, 4, .inr (.inr (.inr (.inr (fun j => if j < b then some (ad 7 j) else none)))))) := sw_at hj (k := 3) (i := 0) rfl
theorem i_at4 (hj : sj (iV a b c) ad) : iw kk ad a b c (ad 4 0) = some (.inl (kk 4, 2, .inr (.inr (.inr (.inr (fun j => if j < c then some (ad 9 j) else none)))))) := sw_at hj (k := 4) (i := 0) rfl
theorem i_track (hj : sj (iV a b c) ad) {q : Nat} (hq : iw kk ad a b c q = none) : fw_up (fw_up (iw kk ad a b c) q (.inr (2, [.null, .int (-1)]))) (ad 2 0) (.inl (kk 2, 6, .inr (.inr (.inr (.inr (va_up (fun j => if j < a then some (ad 6 j) else none) a (some q))))))) = iw kk (sa ad 6 a q) (a + 1) b c ∧ sj (iV (a + 1) b c) (sa ad 6 a q) := by
  have hV : ∀ k' i', iV (a + 1) b c k' i' ↔ iV a b c k' i' ∨ (k' = 6 ∧ i' = a) := by
    intro k' i'
    unfold iV
    split <;> simp_all
    omega
  have hs : ∀ k' i', ¬ k' = 6 → sa ad 6 a q k' i' = ad k' i' := fun k' i' h => sa_ne (fun z => h z.1)
  refine ⟨sw_new_up (k := 6) (i := a) (k2 := 2) (i2 := 0) hj hq ((hV 6 a).mpr (Or.inr ⟨rfl, rfl⟩)) (fun z => Nat.lt_irrefl a z) hV rfl rfl ?_ ?_, sw_sj hj hq (fun k' i' h => (hV k' i').mp h)⟩
  · show Sum.inl _ = _
    rw [va_row (g := ad 6) (g' := sa ad 6 a q 6) (fun j h => sa_ne (by omega)) (sa_self ad 6 a q)]
  · intro k' i' hv z
    unfold iE
    split
    · rw [hs 1 0 (by decide), hs 2 0 (by decide), hs 3 0 (by decide), hs 4 0 (by decide)]
    · rfl
    · exact absurd ⟨rfl, hv⟩ z
    · simp only [hs 7 _ (by decide)]
    · simp only [hs 9 _ (by decide)]
    · rfl
    · rw [hs 8 _ (by decide)]
    · rfl
    · rw [hs 10 _ (by decide)]
    · rfl
    · rfl
theorem i_rake (hj : sj (iV a b c) ad) {q q2 : Nat} (hq : iw kk ad a b c q = none) (hq2 : iw kk ad a b c q2 = none) (hne : q2 ≠ q) : fw_up (fw_up (fw_up (iw kk ad a b c) q (.inr (0, [.int 0, .int 0, .int 0, .ref q2]))) q2 (.inl (kk 1, 12, .inr (.inr (.inr (.inr (fun _ => none))))))) (ad 3 0) (.inl (kk 3, 4, .inr (.inr (.inr (.inr (va_up (fun j => if j < b then some (ad 7 j) else none) b (some q))))))) = iw kk (sa (sa ad 7 b q) 8 b q2) a (b + 1) c ∧ sj (iV a (b + 1) c) (sa (sa ad 7 b q) 8 b q2) := by
  have hV1 : ∀ k' i', (iV a b c k' i' ∨ (k' = 7 ∧ i' = b)) ↔ iV a b c k' i' ∨ (k' = 7 ∧ i' = b) := fun _ _ => Iff.rfl
  have e1 := sw_new (V' := fun k' i' => iV a b c k' i' ∨ (k' = 7 ∧ i' = b)) (E' := fun k' i' => if k' = 7 ∧ i' = b then .inr (0, [.int 0, .int 0, .int 0, .ref q2]) else iE kk ad a b c k' i') (k := 7) (i := b) (e := .inr (0, [.int 0, .int 0, .int 0, .ref q2])) hj hq (Or.inr ⟨rfl, rfl⟩) (fun z => Nat.lt_irrefl b z) hV1 (if_pos ⟨rfl, rfl⟩) (fun k' i' hv => if_neg (fun z => by rw [z.1, z.2] at hv; exact Nat.lt_irrefl b hv))
  have hj1 := sw_sj (V' := fun k' i' => iV a b c k' i' ∨ (k' = 7 ∧ i' = b)) (k := 7) (i := b) hj hq (fun _ _ h => h)
  have hq2' := fw_up_ne (w := iw kk ad a b c) (e := .inr (0, [.int 0, .int 0, .int 0, .ref q2])) hne
  rw [hq2, e1] at hq2'
  have hV : ∀ k' i', iV a (b + 1) c k' i' ↔ (iV a b c k' i' ∨ (k' = 7 ∧ i' = b)) ∨ (k' = 8 ∧ i' = b) := by
    intro k' i'
    unfold iV
    split <;> simp_all
    all_goals omega
  have hs : ∀ k' i', ¬ k' = 7 → ¬ k' = 8 → sa (sa ad 7 b q) 8 b q2 k' i' = ad k' i' := fun k' i' h h2 => by rw [sa_ne (fun z => h2 z.1), sa_ne (fun z => h z.1)]
  have h3 : ad 3 0 = sa ad 7 b q 3 0 := (sa_ne (fun z => absurd z.1 (by decide))).symm
  rw [e1, h3]
  refine ⟨sw_new_up (k := 8) (i := b) (k2 := 3) (i2 := 0) hj1 hq2' ((hV 8 b).mpr (Or.inr ⟨rfl, rfl⟩)) (fun z => ?_) hV (Or.inl rfl) rfl ?_ ?_, sw_sj hj1 hq2' (fun k' i' h => (hV k' i').mp h)⟩
  · rcases z with z | z
    · exact Nat.lt_irrefl b z
    · exact absurd z.1 (by decide)
  · show Sum.inl _ = _
    rw [va_row (g := ad 7) (g' := sa (sa ad 7 b q) 8 b q2 7) (fun j h => by rw [sa_ne (fun z => absurd z.1 (by decide)), sa_ne (by omega)]) (by rw [sa_ne (fun z => absurd z.1 (by decide)), sa_self])]
  · intro k' i' hv z
    try dsimp only
    by_cases h7 : k' = 7 ∧ i' = b
    · rw [if_pos h7, h7.1, h7.2]
      show Sum.inr _ = _
      rw [sa_self]
    · rw [if_neg h7]
      have hv := hv.resolve_right h7
      unfold iE
      split
      · rw [hs 1 0 (by decide) (by decide), hs 2 0 (by decide) (by decide), hs 3 0 (by decide) (by decide), hs 4 0 (by decide) (by decide)]
      · rfl
      · simp only [hs 6 _ (by decide) (by decide)]
      · exact absurd ⟨rfl, hv⟩ z
      · simp only [hs 9 _ (by decide) (by decide)]
      · rfl
      · rw [sa_ne (fun z => h7 ⟨rfl, z.2⟩), sa_ne (fun z => absurd z.1 (by decide))]
      · rfl
      · rw [hs 10 _ (by decide) (by decide)]
      · rfl
      · rfl
theorem i_table (hj : sj (iV a b c) ad) {q q2 : Nat} (hq : iw kk ad a b c q = none) (hq2 : iw kk ad a b c q2 = none) (hne : q2 ≠ q) : fw_up (fw_up (fw_up (iw kk ad a b c) q (.inr (1, [.int 0, .int 0, .int 0, .ref q2]))) q2 (.inl (kk 0, 72, .inl (fun _ => 0)))) (ad 4 0) (.inl (kk 4, 2, .inr (.inr (.inr (.inr (va_up (fun j => if j < c then some (ad 9 j) else none) c (some q))))))) = iw kk (sa (sa ad 9 c q) 10 c q2) a b (c + 1) ∧ sj (iV a b (c + 1)) (sa (sa ad 9 c q) 10 c q2) := by
  have hV1 : ∀ k' i', (iV a b c k' i' ∨ (k' = 9 ∧ i' = c)) ↔ iV a b c k' i' ∨ (k' = 9 ∧ i' = c) := fun _ _ => Iff.rfl
  have e1 := sw_new (V' := fun k' i' => iV a b c k' i' ∨ (k' = 9 ∧ i' = c)) (E' := fun k' i' => if k' = 9 ∧ i' = c then .inr (1, [.int 0, .int 0, .int 0, .ref q2]) else iE kk ad a b c k' i') (k := 9) (i := c) (e := .inr (1, [.int 0, .int 0, .int 0, .ref q2])) hj hq (Or.inr ⟨rfl, rfl⟩) (fun z => Nat.lt_irrefl c z) hV1 (if_pos ⟨rfl, rfl⟩) (fun k' i' hv => if_neg (fun z => by rw [z.1, z.2] at hv; exact Nat.lt_irrefl c hv))
  have hj1 := sw_sj (V' := fun k' i' => iV a b c k' i' ∨ (k' = 9 ∧ i' = c)) (k := 9) (i := c) hj hq (fun _ _ h => h)
  have hq2' := fw_up_ne (w := iw kk ad a b c) (e := .inr (1, [.int 0, .int 0, .int 0, .ref q2])) hne
  rw [hq2, e1] at hq2'
  have hV : ∀ k' i', iV a b (c + 1) k' i' ↔ (iV a b c k' i' ∨ (k' = 9 ∧ i' = c)) ∨ (k' = 10 ∧ i' = c) := by
    intro k' i'
    unfold iV
    split <;> simp_all
    all_goals omega
  have hs : ∀ k' i', ¬ k' = 9 → ¬ k' = 10 → sa (sa ad 9 c q) 10 c q2 k' i' = ad k' i' := fun k' i' h h2 => by rw [sa_ne (fun z => h2 z.1), sa_ne (fun z => h z.1)]
  have h3 : ad 4 0 = sa ad 9 c q 4 0 := (sa_ne (fun z => absurd z.1 (by decide))).symm
  rw [e1, h3]
  refine ⟨sw_new_up (k := 10) (i := c) (k2 := 4) (i2 := 0) hj1 hq2' ((hV 10 c).mpr (Or.inr ⟨rfl, rfl⟩)) (fun z => ?_) hV (Or.inl rfl) rfl ?_ ?_, sw_sj hj1 hq2' (fun k' i' h => (hV k' i').mp h)⟩
  · rcases z with z | z
    · exact Nat.lt_irrefl c z
    · exact absurd z.1 (by decide)
  · show Sum.inl _ = _
    rw [va_row (g := ad 9) (g' := sa (sa ad 9 c q) 10 c q2 9) (fun j h => by rw [sa_ne (fun z => absurd z.1 (by decide)), sa_ne (by omega)]) (by rw [sa_ne (fun z => absurd z.1 (by decide)), sa_self])]
  · intro k' i' hv z
    try dsimp only
    by_cases h7 : k' = 9 ∧ i' = c
    · rw [if_pos h7, h7.1, h7.2]
      show Sum.inr _ = _
      rw [sa_self]
    · rw [if_neg h7]
      have hv := hv.resolve_right h7
      unfold iE
      split
      · rw [hs 1 0 (by decide) (by decide), hs 2 0 (by decide) (by decide), hs 3 0 (by decide) (by decide), hs 4 0 (by decide) (by decide)]
      · rfl
      · simp only [hs 6 _ (by decide) (by decide)]
      · simp only [hs 7 _ (by decide) (by decide)]
      · exact absurd ⟨rfl, hv⟩ z
      · rfl
      · rw [hs 8 _ (by decide) (by decide)]
      · rfl
      · rw [sa_ne (fun z => h7 ⟨rfl, z.2⟩), sa_ne (fun z => absurd z.1 (by decide))]
      · rfl
      · rfl
end IS
def I0 : sI := fun f _ => if f = 3 ∨ f = 4 then -1 else 0
def O0 : sO := fun _ _ => none
theorem i_end {kk : Nat → ClassId} {ad : Nat → Nat → Nat} (hj : sj (iV 6 4 2) ad) : iw kk ad 6 4 2 = xw kk ad 0 I0 O0 ∧ sj (xV 0) ad := by
  have hV : ∀ k i, iV 6 4 2 k i ↔ xV 0 k i := by
    intro k i
    unfold iV xV
    split <;> simp_all
  refine ⟨sw_ext hj hV (fun _ _ _ => rfl) (fun k i hv => ?_), fun k i k' i' h1 h2 h3 => hj k i k' i' ((hV k i).mpr h1) ((hV k' i').mpr h2) h3⟩
  have h5 : ¬ k = 5 := fun z => by
    subst z
    exact hv
  have e3 : ¬ 20 + i = 3 := by omega
  have e4 : ¬ 20 + i = 4 := by omega
  unfold iE xE
  split <;> simp_all [I0, O0, va_rf, nI_0, iV]
theorem i_start {kk : Nat → ClassId} {q q1 q2 q3 q4 : Nat} {e0 e1 e2 e3 e4 a1 a2 a3 a4 : va_E} (h1 : fw_up (fun _ => none) q e0 q1 = none) (h2 : fw_up (fw_up (fw_up (fun _ => none) q e0) q1 a1) q e1 q2 = none) (h3 : fw_up (fw_up (fw_up (fw_up (fw_up (fun _ => none) q e0) q1 a1) q e1) q2 a2) q e2 q3 = none) (h4 : fw_up (fw_up (fw_up (fw_up (fw_up (fw_up (fw_up (fun _ => none) q e0) q1 a1) q e1) q2 a2) q e2) q3 a3) q e3 q4 = none)
    (he : e4 = .inr (4, [.ref q1, .int 0, .ref q2, .ref q3, .ref q4, .int 0, .int 0, .int 0])) (g1 : a1 = .inl (kk 1, 40, .inr (.inr (.inr (.inr (fun _ => none)))))) (g2 : a2 = .inl (kk 2, 6, .inr (.inr (.inr (.inr (fun _ => none)))))) (g3 : a3 = .inl (kk 3, 4, .inr (.inr (.inr (.inr (fun _ => none)))))) (g4 : a4 = .inl (kk 4, 2, .inr (.inr (.inr (.inr (fun _ => none)))))) :
    ∃ ad : Nat → Nat → Nat, ad 0 0 = q ∧ sj (iV 0 0 0) ad ∧ fw_up (fw_up (fw_up (fw_up (fw_up (fw_up (fw_up (fw_up (fw_up (fun _ => none) q e0) q1 a1) q e1) q2 a2) q e2) q3 a3) q e3) q4 a4) q e4 = iw kk ad 0 0 0 := by
  have d1 := fw_nn h1
  have d2 := fw_nn h2
  have d2' := fw_nn d2.2
  have d3 := fw_nn h3
  have d3' := fw_nn d3.2
  have d3b := fw_nn (fw_nn d3'.2).2
  have d4 := fw_nn h4
  have d4' := fw_nn d4.2
  have d4b := fw_nn (fw_nn d4'.2).2
  have d4c := fw_nn (fw_nn d4b.2).2
  have s1 : ¬ q = q1 := fun z => d1.1 z.symm
  have s2 : ¬ q = q2 := fun z => d2.1 z.symm
  have s3 : ¬ q = q3 := fun z => d3.1 z.symm
  have s4 : ¬ q = q4 := fun z => d4.1 z.symm
  have s12 : ¬ q1 = q2 := fun z => d2'.1 z.symm
  have s13 : ¬ q1 = q3 := fun z => d3b.1 z.symm
  have s14 : ¬ q1 = q4 := fun z => d4c.1 z.symm
  have s23 : ¬ q2 = q3 := fun z => d3'.1 z.symm
  have s24 : ¬ q2 = q4 := fun z => d4b.1 z.symm
  have s34 : ¬ q3 = q4 := fun z => d4'.1 z.symm
  have hj : sj (iV 0 0 0) (fun k _ => match k with | 0 => q | 1 => q1 | 2 => q2 | 3 => q3 | _ => q4) := by
    intro k i k' i' v1 v2 h
    have hk : ∀ k i, iV 0 0 0 k i → (k = 0 ∨ k = 1 ∨ k = 2 ∨ k = 3 ∨ k = 4) ∧ i = 0 := by
      intro k i h
      unfold iV at h
      split at h <;> simp_all
    obtain ⟨z1, rfl⟩ := hk k i v1
    obtain ⟨z2, rfl⟩ := hk k' i' v2
    rcases z1 with rfl | rfl | rfl | rfl | rfl <;> rcases z2 with rfl | rfl | rfl | rfl | rfl <;> simp_all
  refine ⟨_, rfl, hj, sw_char hj ?_ ?_⟩
  · intro k i v
    have hk : (k = 0 ∨ k = 1 ∨ k = 2 ∨ k = 3 ∨ k = 4) ∧ i = 0 := by
      unfold iV at v
      split at v <;> simp_all
    obtain ⟨z1, rfl⟩ := hk
    rcases z1 with rfl | rfl | rfl | rfl | rfl <;> simp_all [fw_up, iE]
  · intro a h
    have w0 := h 0 0 rfl
    have w1 := h 1 0 rfl
    have w2 := h 2 0 rfl
    have w3 := h 3 0 rfl
    have w4 := h 4 0 rfl
    simp only [fw_up]
    rw [if_neg (fun z => w0 z.symm), if_neg (fun z => w4 z.symm), if_neg (fun z => w0 z.symm), if_neg (fun z => w3 z.symm), if_neg (fun z => w0 z.symm), if_neg (fun z => w2 z.symm), if_neg (fun z => w0 z.symm), if_neg (fun z => w1 z.symm), if_neg (fun z => w0 z.symm)]

set_option maxHeartbeats 4000000 in
set_option maxRecDepth 100000 in
theorem c_X4_init (l : Launch) (D : va_G) (kk : Nat → ClassId) (q : Nat) : fw_MvA l yX4_init wsX4_init { frames := 2, cells := 22, slots := 280, locals := 32 } 22 280 D vwCl (xT kk) (fw_up (fun _ => none) q (.inr (4, [.null, .int 0, .null, .null, .null, .int 0, .int 0, .int 0]))) [.ref q] (fun w1 => ∃ ad, ad 0 0 = q ∧ sj (xV 0) ad ∧ w1 = xw kk ad 0 I0 O0) := by
  refine fw_ofvA (cc := cX4_init) (maxL := 2) (ret := none) (by decide) rfl (Nat.le_of_ble_eq_true rfl) ?_
  intro p e s m args below meth c A ls hx hb hml hr hlocks hnm hts hown hK hO hP hD hA hS hl
  have hown : s.vm.findClass RX4 = some m.cls := hown
  have hl : lv_has ls 2 [(0, .ref q)] := hl
  have in4 : ∀ w ∈ u_ws RX4 TX4 8, w ∈ wsX4_init := by decide +kernel
  have hnm : meth.name = "<init>" := hnm
  have in0 : ∀ w ∈ u_ws RX0 TX0 4, w ∈ wsX4_init := by decide +kernel
  have in1 : ∀ w ∈ u_ws RX1 TX1 4, w ∈ wsX4_init := by decide +kernel
  have in2 : ∀ w ∈ u_ws RX2 TX2 2, w ∈ wsX4_init := by decide +kernel
  have loop3 : ∀ (f d : Nat) (ad : Nat → Nat → Nat) (H : Heap) (locs : List Loc) (ls : Array Slot), d + f = 2 → ad 0 0 = q → sj (iV 6 4 d) ad → fw_P D vwCl (iw kk ad 6 4 d) H → fw_D A (iw kk ad 6 4 d) → va_S A s.heap H locs → lv_has ls 2 [(1, .int (nI d)), (0, .ref (ad 0 0))] → W p l e { frames := 2, cells := 22, slots := 280, locals := 32 } s m args below meth c H locs (18 + 2 * d) (128 + 76 * d) (MQ below (va_Qv (fun w1 => ∃ ad, ad 0 0 = q ∧ sj (xV 0) ad ∧ w1 = xw kk ad 0 I0 O0) (fw_B D vwCl (xT kk) A) A) args s 22 280 A) (F0 m 93 ls []) := by
    intro f
    induction f with
    | zero =>
      intro d ad H locs ls hdf h00 hj hP hD hS hl
      obtain rfl : d = 2 := by omega
      refine lv_iload_n hx hb dX4_init_93 rfl (lv_at hl 0 rfl) ?_
      refine lv_iconst (v := 2) hx hb dX4_init_94 (by decide) ?_
      refine lv_icmp_ge (tgt := 117) hx hb dX4_init_95 (by decide) (fun _ => ?_) (fun c9 => absurd (nI_le (Nat.le_refl _) (by decide)) c9)
      obtain ⟨e9, hj9⟩ := i_end (kk := kk) hj
      rw [e9] at hP hD
      exact fw_vret hx hb hr hlocks hK hP hD hS dX4_init_117 ⟨ad, h00, hj9, rfl⟩
    | succ f ih =>
      intro d ad H locs ls hdf h00 hj hP hD hS hl
      refine lv_iload_n hx hb dX4_init_93 rfl (lv_at hl 0 rfl) ?_
      refine lv_iconst (v := 2) hx hb dX4_init_94 (by decide) ?_
      refine lv_icmp_ge (tgt := 117) hx hb dX4_init_95 (by decide) (fun c9 => absurd c9 (nI_ge (a := d) (b := 2) (by omega) (by decide))) (fun _ => ?_)
      refine lv_aload_n hx hb dX4_init_98 rfl (lv_at hl 1 rfl) ?_
      refine fw_get (v := .ref (ad 4 0)) (C := RX4) (T := TX4) (N := 8) hx hb hts in4 hown hK hP (i_at0 hj) rfl 4 (by decide) (hts (.fieldLink RX4 29 "WagonSidings" "tables" "[LWagonSidings$Table;") (by decide +kernel)) (fun _ h9 => h9) rfl dX4_init_99 ?_
      refine lv_iload_n hx hb dX4_init_102 rfl (lv_at hl 0 rfl) ?_
      refine fw_new (ci := 1) (fs := [.int 0, .int 0, .int 0, .null]) (C := RX1) (T := TX1) (N := 4) hx hb hts in1 tyX1 tyX1_ok hown (hts (.classLink RX4 27 RX1) (by decide +kernel)) (hts (.instantiable RX1 4) (by decide +kernel)) (hts (.initialized RX1) (by decide +kernel)) hK hP hD hS hA rfl (fun j hj => by rcases (show j = 0 ∨ j = 1 ∨ j = 2 ∨ j = 3 by omega) with rfl | rfl | rfl | rfl <;> rfl) (by show 18 + 2 * d + 1 ≤ 22; omega) (by show 128 + 76 * d + 4 ≤ 280; omega) dX4_init_103 (fun q1 H hq1 hP hD hS => ?_)
      refine lv_dup hx hb dX4_init_106 rfl ?_
      refine fw_callv (va_runIN (host := "WagonSidings") (As := []) (rest := [.ref q1, .int (nI d), .ref (ad 4 0)]) ⟨hx, hb, hml, hown, hts⟩ (c_X1_init l D kk _ q1 (fw_up_self _ _ _) _) ⟨va_cnB 0 hts gX4_init_X1_init_n35 rfl rfl rfl hO.2.2.2 (hts (.initialized RX1) (by decide +kernel)) (by decide +kernel) ⟨Nat.le_of_ble_eq_true rfl, Nat.le_of_ble_eq_true rfl⟩, rfl, hts (.instanceMethod yX1_init) (by decide +kernel)⟩ (fw_preS hK hP) rfl rfl hl.1 rfl (lv_room (Nat.le_of_ble_eq_true rfl)) dX4_init_107 ⟨by show 18 + 2 * d + 1 + 1 ≤ 22; omega, by show 128 + 76 * d + 4 + 72 ≤ 280; omega⟩) hD hS hA (fun w1 H locs hq2 hP hD hS => ?_)
      obtain ⟨q2, hq3, rfl⟩ := hq2
      obtain ⟨hne, hq4⟩ := fw_nn hq3
      rw [fw_mk hne] at hP hD
      obtain ⟨e9, hj9⟩ := i_table hj hq1 hq4 hne
      have h00a : (sa (sa ad 9 d q1) 10 d q2) 0 0 = ad 0 0 := (sa_ne (fun z => absurd z.1 (by decide))).trans (sa_ne (fun z => absurd z.1 (by decide)))
      refine fw_astq (w1 := iw kk (sa (sa ad 9 d q1) 10 d q2) 6 4 (d + 1)) hx hb hK hP hD hS 4 1 ((fw_up_ne (sw_ne hj hq4 (k := 4) (i := 0) rfl)).trans ((fw_up_ne (sw_ne hj hq1 (k := 4) (i := 0) rfl)).trans (i_at4 hj))) rfl ((fw_up_ne (fun z => hne z.symm)).trans (fw_up_self _ _ _)) rfl (vp_in_nI (by omega) (by decide)) dX4_init_110 (by rw [nI_clamp (by omega)]; exact e9) (fun H locs hP hD hS => ?_)
      refine lv_iinc (v := nI (d + 1)) (lv' := [(1, .int (nI (d + 1))), (0, .ref (ad 0 0))]) hx hb dX4_init_111 hl (k := 0) rfl (nI_1 d) (by decide) rfl (fun ls hl => ?_)
      refine lv_goto (tgt := 93) hx hb dX4_init_114 (by decide) ?_
      refine W.cs (cells' := 18 + 2 * (d + 1)) (slots' := 128 + 76 * (d + 1)) (by omega) (by omega) ?_
      exact ih (d + 1) (sa (sa ad 9 d q1) 10 d q2) H locs ls (by omega) (h00a.trans h00) hj9 hP hD hS (by rw [h00a]; exact hl)
  have loop2 : ∀ (f d : Nat) (ad : Nat → Nat → Nat) (H : Heap) (locs : List Loc) (ls : Array Slot), d + f = 4 → ad 0 0 = q → sj (iV 6 d 0) ad → fw_P D vwCl (iw kk ad 6 d 0) H → fw_D A (iw kk ad 6 d 0) → va_S A s.heap H locs → lv_has ls 2 [(1, .int (nI d)), (0, .ref (ad 0 0))] → W p l e { frames := 2, cells := 22, slots := 280, locals := 32 } s m args below meth c H locs (10 + 2 * d) (64 + 16 * d) (MQ below (va_Qv (fun w1 => ∃ ad, ad 0 0 = q ∧ sj (xV 0) ad ∧ w1 = xw kk ad 0 I0 O0) (fw_B D vwCl (xT kk) A) A) args s 22 280 A) (F0 m 67 ls []) := by
    intro f
    induction f with
    | zero =>
      intro d ad H locs ls hdf h00 hj hP hD hS hl
      obtain rfl : d = 4 := by omega
      refine lv_iload_n hx hb dX4_init_67 rfl (lv_at hl 0 rfl) ?_
      refine lv_iconst (v := 4) hx hb dX4_init_68 (by decide) ?_
      refine lv_icmp_ge (tgt := 91) hx hb dX4_init_69 (by decide) (fun _ => ?_) (fun c9 => absurd (nI_le (Nat.le_refl _) (by decide)) c9)
      refine lv_iconst (v := 0) hx hb dX4_init_91 (by decide) ?_
      refine lv_istore_n (lv' := [(1, .int 0), (0, .ref (ad 0 0))]) hx hb dX4_init_92 rfl hl (by decide) rfl (fun ls hl => ?_)
      exact loop3 2 0 ad H locs ls rfl h00 hj hP hD hS hl
    | succ f ih =>
      intro d ad H locs ls hdf h00 hj hP hD hS hl
      refine lv_iload_n hx hb dX4_init_67 rfl (lv_at hl 0 rfl) ?_
      refine lv_iconst (v := 4) hx hb dX4_init_68 (by decide) ?_
      refine lv_icmp_ge (tgt := 91) hx hb dX4_init_69 (by decide) (fun c9 => absurd c9 (nI_ge (a := d) (b := 4) (by omega) (by decide))) (fun _ => ?_)
      refine lv_aload_n hx hb dX4_init_72 rfl (lv_at hl 1 rfl) ?_
      refine fw_get (v := .ref (ad 3 0)) (C := RX4) (T := TX4) (N := 8) hx hb hts in4 hown hK hP (i_at0 hj) rfl 3 (by decide) (hts (.fieldLink RX4 23 "WagonSidings" "rakes" "[LWagonSidings$Rake;") (by decide +kernel)) (fun _ h9 => h9) rfl dX4_init_73 ?_
      refine lv_iload_n hx hb dX4_init_76 rfl (lv_at hl 0 rfl) ?_
      refine fw_new (ci := 0) (fs := [.int 0, .int 0, .int 0, .null]) (C := RX0) (T := TX0) (N := 4) hx hb hts in0 tyX0 tyX0_ok hown (hts (.classLink RX4 21 RX0) (by decide +kernel)) (hts (.instantiable RX0 4) (by decide +kernel)) (hts (.initialized RX0) (by decide +kernel)) hK hP hD hS hA rfl (fun j hj => by rcases (show j = 0 ∨ j = 1 ∨ j = 2 ∨ j = 3 by omega) with rfl | rfl | rfl | rfl <;> rfl) (by show 10 + 2 * d + 1 ≤ 22; omega) (by show 64 + 16 * d + 4 ≤ 280; omega) dX4_init_77 (fun q1 H hq1 hP hD hS => ?_)
      refine lv_dup hx hb dX4_init_80 rfl ?_
      refine fw_callv (va_runIN (host := "WagonSidings") (As := []) (rest := [.ref q1, .int (nI d), .ref (ad 3 0)]) ⟨hx, hb, hml, hown, hts⟩ (c_X0_init l D kk _ q1 (fw_up_self _ _ _) _) ⟨va_cnB 0 hts gX4_init_X0_init_n34 rfl rfl rfl hO.2.2.1 (hts (.initialized RX0) (by decide +kernel)) (by decide +kernel) ⟨Nat.le_of_ble_eq_true rfl, Nat.le_of_ble_eq_true rfl⟩, rfl, hts (.instanceMethod yX0_init) (by decide +kernel)⟩ (fw_preSA hK hO hP) rfl rfl hl.1 rfl (lv_room (Nat.le_of_ble_eq_true rfl)) dX4_init_81 ⟨by show 10 + 2 * d + 1 + 1 ≤ 22; omega, by show 64 + 16 * d + 4 + 12 ≤ 280; omega⟩) hD hS hA (fun w1 H locs hq2 hP hD hS => ?_)
      obtain ⟨q2, hq3, rfl⟩ := hq2
      obtain ⟨hne, hq4⟩ := fw_nn hq3
      rw [fw_mk hne] at hP hD
      obtain ⟨e9, hj9⟩ := i_rake hj hq1 hq4 hne
      have h00a : (sa (sa ad 7 d q1) 8 d q2) 0 0 = ad 0 0 := (sa_ne (fun z => absurd z.1 (by decide))).trans (sa_ne (fun z => absurd z.1 (by decide)))
      refine fw_astq (w1 := iw kk (sa (sa ad 7 d q1) 8 d q2) 6 (d + 1) 0) hx hb hK hP hD hS 3 0 ((fw_up_ne (sw_ne hj hq4 (k := 3) (i := 0) rfl)).trans ((fw_up_ne (sw_ne hj hq1 (k := 3) (i := 0) rfl)).trans (i_at3 hj))) rfl ((fw_up_ne (fun z => hne z.symm)).trans (fw_up_self _ _ _)) rfl (vp_in_nI (by omega) (by decide)) dX4_init_84 (by rw [nI_clamp (by omega)]; exact e9) (fun H locs hP hD hS => ?_)
      refine lv_iinc (v := nI (d + 1)) (lv' := [(1, .int (nI (d + 1))), (0, .ref (ad 0 0))]) hx hb dX4_init_85 hl (k := 0) rfl (nI_1 d) (by decide) rfl (fun ls hl => ?_)
      refine lv_goto (tgt := 67) hx hb dX4_init_88 (by decide) ?_
      refine W.cs (cells' := 10 + 2 * (d + 1)) (slots' := 64 + 16 * (d + 1)) (by omega) (by omega) ?_
      exact ih (d + 1) (sa (sa ad 7 d q1) 8 d q2) H locs ls (by omega) (h00a.trans h00) hj9 hP hD hS (by rw [h00a]; exact hl)
  have loop1 : ∀ (f d : Nat) (ad : Nat → Nat → Nat) (H : Heap) (locs : List Loc) (ls : Array Slot), d + f = 6 → ad 0 0 = q → sj (iV d 0 0) ad → fw_P D vwCl (iw kk ad d 0 0) H → fw_D A (iw kk ad d 0 0) → va_S A s.heap H locs → lv_has ls 2 [(1, .int (nI d)), (0, .ref (ad 0 0))] → W p l e { frames := 2, cells := 22, slots := 280, locals := 32 } s m args below meth c H locs (4 + d) (52 + 2 * d) (MQ below (va_Qv (fun w1 => ∃ ad, ad 0 0 = q ∧ sj (xV 0) ad ∧ w1 = xw kk ad 0 I0 O0) (fw_B D vwCl (xT kk) A) A) args s 22 280 A) (F0 m 40 ls []) := by
    intro f
    induction f with
    | zero =>
      intro d ad H locs ls hdf h00 hj hP hD hS hl
      obtain rfl : d = 6 := by omega
      refine lv_iload_n hx hb dX4_init_40 rfl (lv_at hl 0 rfl) ?_
      refine lv_bipush (v := 6) hx hb dX4_init_41 (by decide) ?_
      refine lv_icmp_ge (tgt := 65) hx hb dX4_init_43 (by decide) (fun _ => ?_) (fun c9 => absurd (nI_le (Nat.le_refl _) (by decide)) c9)
      refine lv_iconst (v := 0) hx hb dX4_init_65 (by decide) ?_
      refine lv_istore_n (lv' := [(1, .int 0), (0, .ref (ad 0 0))]) hx hb dX4_init_66 rfl hl (by decide) rfl (fun ls hl => ?_)
      exact loop2 4 0 ad H locs ls rfl h00 hj hP hD hS hl
    | succ f ih =>
      intro d ad H locs ls hdf h00 hj hP hD hS hl
      refine lv_iload_n hx hb dX4_init_40 rfl (lv_at hl 0 rfl) ?_
      refine lv_bipush (v := 6) hx hb dX4_init_41 (by decide) ?_
      refine lv_icmp_ge (tgt := 65) hx hb dX4_init_43 (by decide) (fun c9 => absurd c9 (nI_ge (a := d) (b := 6) (by omega) (by decide))) (fun _ => ?_)
      refine lv_aload_n hx hb dX4_init_46 rfl (lv_at hl 1 rfl) ?_
      refine fw_get (v := .ref (ad 2 0)) (C := RX4) (T := TX4) (N := 8) hx hb hts in4 hown hK hP (i_at0 hj) rfl 2 (by decide) (hts (.fieldLink RX4 17 "WagonSidings" "tracks" "[LWagonSidings$Track;") (by decide +kernel)) (fun _ h9 => h9) rfl dX4_init_47 ?_
      refine lv_iload_n hx hb dX4_init_50 rfl (lv_at hl 0 rfl) ?_
      refine fw_new (ci := 2) (fs := [.null, .int 0]) (C := RX2) (T := TX2) (N := 2) hx hb hts in2 tyX2 tyX2_ok hown (hts (.classLink RX4 15 RX2) (by decide +kernel)) (hts (.instantiable RX2 2) (by decide +kernel)) (hts (.initialized RX2) (by decide +kernel)) hK hP hD hS hA rfl (fun j hj => by rcases (show j = 0 ∨ j = 1 by omega) with rfl | rfl <;> rfl) (by show 4 + d + 1 ≤ 22; omega) (by show 52 + 2 * d + 2 ≤ 280; omega) dX4_init_51 (fun q1 H hq1 hP hD hS => ?_)
      refine lv_dup hx hb dX4_init_54 rfl ?_
      refine fw_callv (va_runIN (host := "WagonSidings") (As := []) (rest := [.ref q1, .int (nI d), .ref (ad 2 0)]) ⟨hx, hb, hml, hown, hts⟩ (c_X2_init l D kk _ q1 (fw_up_self _ _ _) _) ⟨va_cnB 0 hts gX4_init_X2_init_n33 rfl rfl rfl hO.2.1 (hts (.initialized RX2) (by decide +kernel)) (by decide +kernel) ⟨Nat.le_of_ble_eq_true rfl, Nat.le_of_ble_eq_true rfl⟩, rfl, hts (.instanceMethod yX2_init) (by decide +kernel)⟩ (fw_preS hK hP) rfl rfl hl.1 rfl (lv_room (Nat.le_of_ble_eq_true rfl)) dX4_init_55 ⟨by show 4 + d + 1 + 0 ≤ 22; omega, by show 52 + 2 * d + 2 + 0 ≤ 280; omega⟩) hD hS hA (fun w1 H locs hq2 hP hD hS => ?_)
      subst hq2
      rw [fw_up_up] at hP hD
      obtain ⟨e9, hj9⟩ := i_track hj hq1
      have h00a : (sa ad 6 d q1) 0 0 = ad 0 0 := sa_ne (fun z => absurd z.1 (by decide))
      refine fw_astq (w1 := iw kk (sa ad 6 d q1) (d + 1) 0 0) hx hb hK hP hD hS 2 2 ((fw_up_ne (sw_ne hj hq1 (k := 2) (i := 0) rfl)).trans (i_at2 hj)) rfl (fw_up_self _ _ _) rfl (vp_in_nI (by omega) (by decide)) dX4_init_58 (by rw [nI_clamp (by omega)]; exact e9) (fun H locs hP hD hS => ?_)
      refine lv_iinc (v := nI (d + 1)) (lv' := [(1, .int (nI (d + 1))), (0, .ref (ad 0 0))]) hx hb dX4_init_59 hl (k := 0) rfl (nI_1 d) (by decide) rfl (fun ls hl => ?_)
      refine lv_goto (tgt := 40) hx hb dX4_init_62 (by decide) ?_
      refine W.cs (cells' := 4 + (d + 1)) (slots' := 52 + 2 * (d + 1)) (by omega) (by omega) ?_
      exact ih (d + 1) (sa ad 6 d q1) H locs ls (by omega) (h00a.trans h00) hj9 hP hD hS (by rw [h00a]; exact hl)
  refine lv_aload_n hx hb dX4_init_0 rfl (lv_at hl 0 rfl) ?_
  refine W.objInit hx hb hown (hts (.methodLink RX4 1 objectInit) (by decide +kernel)) (hts (.instanceMethod objectInit) (by decide +kernel)) (hts _ (by unfold wsX4_init; exact List.mem_cons_of_mem _ (List.mem_append_left _ (List.mem_append_left _ (List.mem_append_left _ (List.mem_append_left _ (List.mem_append_left _ (List.mem_of_getElem? (i := 2) rfl)))))))) rfl (by rw [hml]; exact hl.1) rfl dX4_init_1 (Nat.le_of_ble_eq_true rfl) (Nat.le_of_ble_eq_true rfl) ?_
  refine W.eq (g2 := F0 m 4 ls []) rfl ?_
  refine lv_aload_n hx hb dX4_init_4 rfl (lv_at hl 0 rfl) ?_
  refine lv_bipush (v := 40) hx hb dX4_init_5 (by decide) ?_
  refine fw_newq (t0 := 1) (N' := 40) hx hb hown (hts (.classLink RX4 9 RX3) (by decide +kernel)) hO.1.1 hK hP hD hS hA rfl (by decide) rfl (by decide) (Nat.le_of_ble_eq_true rfl) (Nat.le_of_ble_eq_true rfl) dX4_init_7 (fun q1 H hq1 hP hD hS => ?_)
  refine fw_putF (v := .ref q1) (ty := .array (.object "WagonSidings$Wagon")) (C := RX4) (T := TX4) (N := 8) hx hb hts in4 tyX4 tyX4_ok nmX4 hown hK hP hD hS ((fw_up_ne (fun z => by rw [← z] at hq1; rw [(fw_up_self _ _ _)] at hq1; cases hq1)).trans (fw_up_self _ _ _)) rfl 0 (by decide) (hts (.fieldLink RX4 11 "WagonSidings" "wagons" "[LWagonSidings$Wagon;") (by decide +kernel)) (fun _ h9 => h9) rfl hnm rfl (by decide +kernel) rfl rfl (Nat.le_of_ble_eq_true rfl) dX4_init_10 (w1 := fw_up (fw_up (fw_up (fun _ => none) q (.inr (4, [.null, .int 0, .null, .null, .null, .int 0, .int 0, .int 0]))) q1 (.inl (kk 1, 40, .inr (.inr (.inr (.inr (fun _ => none))))))) q (.inr (4, [.ref q1, .int 0, .null, .null, .null, .int 0, .int 0, .int 0]))) rfl (fun H locs hP hD hS => ?_)
  refine lv_aload_n hx hb dX4_init_13 rfl (lv_at hl 0 rfl) ?_
  refine lv_bipush (v := 6) hx hb dX4_init_14 (by decide) ?_
  refine fw_newq (t0 := 2) (N' := 6) hx hb hown (hts (.classLink RX4 15 RX2) (by decide +kernel)) hO.1.2.1 hK hP hD hS hA rfl (by decide) rfl (by decide) (Nat.le_of_ble_eq_true rfl) (Nat.le_of_ble_eq_true rfl) dX4_init_16 (fun q2 H hq2 hP hD hS => ?_)
  refine fw_putF (v := .ref q2) (ty := .array (.object "WagonSidings$Track")) (C := RX4) (T := TX4) (N := 8) hx hb hts in4 tyX4 tyX4_ok nmX4 hown hK hP hD hS ((fw_up_ne (fun z => by rw [← z] at hq2; rw [(fw_up_self _ _ _)] at hq2; cases hq2)).trans (fw_up_self _ _ _)) rfl 2 (by decide) (hts (.fieldLink RX4 17 "WagonSidings" "tracks" "[LWagonSidings$Track;") (by decide +kernel)) (fun _ h9 => h9) rfl hnm rfl (by decide +kernel) rfl rfl (Nat.le_of_ble_eq_true rfl) dX4_init_19 (w1 := fw_up (fw_up (fw_up (fw_up (fw_up (fun _ => none) q (.inr (4, [.null, .int 0, .null, .null, .null, .int 0, .int 0, .int 0]))) q1 (.inl (kk 1, 40, .inr (.inr (.inr (.inr (fun _ => none))))))) q (.inr (4, [.ref q1, .int 0, .null, .null, .null, .int 0, .int 0, .int 0]))) q2 (.inl (kk 2, 6, .inr (.inr (.inr (.inr (fun _ => none))))))) q (.inr (4, [.ref q1, .int 0, .ref q2, .null, .null, .int 0, .int 0, .int 0]))) rfl (fun H locs hP hD hS => ?_)
  refine lv_aload_n hx hb dX4_init_22 rfl (lv_at hl 0 rfl) ?_
  refine lv_iconst (v := 4) hx hb dX4_init_23 (by decide) ?_
  refine fw_newq (t0 := 3) (N' := 4) hx hb hown (hts (.classLink RX4 21 RX0) (by decide +kernel)) hO.1.2.2.1 hK hP hD hS hA rfl (by decide) rfl (by decide) (Nat.le_of_ble_eq_true rfl) (Nat.le_of_ble_eq_true rfl) dX4_init_24 (fun q3 H hq3 hP hD hS => ?_)
  refine fw_putF (v := .ref q3) (ty := .array (.object "WagonSidings$Rake")) (C := RX4) (T := TX4) (N := 8) hx hb hts in4 tyX4 tyX4_ok nmX4 hown hK hP hD hS ((fw_up_ne (fun z => by rw [← z] at hq3; rw [(fw_up_self _ _ _)] at hq3; cases hq3)).trans (fw_up_self _ _ _)) rfl 3 (by decide) (hts (.fieldLink RX4 23 "WagonSidings" "rakes" "[LWagonSidings$Rake;") (by decide +kernel)) (fun _ h9 => h9) rfl hnm rfl (by decide +kernel) rfl rfl (Nat.le_of_ble_eq_true rfl) dX4_init_27 (w1 := fw_up (fw_up (fw_up (fw_up (fw_up (fw_up (fw_up (fun _ => none) q (.inr (4, [.null, .int 0, .null, .null, .null, .int 0, .int 0, .int 0]))) q1 (.inl (kk 1, 40, .inr (.inr (.inr (.inr (fun _ => none))))))) q (.inr (4, [.ref q1, .int 0, .null, .null, .null, .int 0, .int 0, .int 0]))) q2 (.inl (kk 2, 6, .inr (.inr (.inr (.inr (fun _ => none))))))) q (.inr (4, [.ref q1, .int 0, .ref q2, .null, .null, .int 0, .int 0, .int 0]))) q3 (.inl (kk 3, 4, .inr (.inr (.inr (.inr (fun _ => none))))))) q (.inr (4, [.ref q1, .int 0, .ref q2, .ref q3, .null, .int 0, .int 0, .int 0]))) rfl (fun H locs hP hD hS => ?_)
  refine lv_aload_n hx hb dX4_init_30 rfl (lv_at hl 0 rfl) ?_
  refine lv_iconst (v := 2) hx hb dX4_init_31 (by decide) ?_
  refine fw_newq (t0 := 4) (N' := 2) hx hb hown (hts (.classLink RX4 27 RX1) (by decide +kernel)) hO.1.2.2.2 hK hP hD hS hA rfl (by decide) rfl (by decide) (Nat.le_of_ble_eq_true rfl) (Nat.le_of_ble_eq_true rfl) dX4_init_32 (fun q4 H hq4 hP hD hS => ?_)
  refine fw_putF (v := .ref q4) (ty := .array (.object "WagonSidings$Table")) (C := RX4) (T := TX4) (N := 8) hx hb hts in4 tyX4 tyX4_ok nmX4 hown hK hP hD hS ((fw_up_ne (fun z => by rw [← z] at hq4; rw [(fw_up_self _ _ _)] at hq4; cases hq4)).trans (fw_up_self _ _ _)) rfl 4 (by decide) (hts (.fieldLink RX4 29 "WagonSidings" "tables" "[LWagonSidings$Table;") (by decide +kernel)) (fun _ h9 => h9) rfl hnm rfl (by decide +kernel) rfl rfl (Nat.le_of_ble_eq_true rfl) dX4_init_35 (w1 := fw_up (fw_up (fw_up (fw_up (fw_up (fw_up (fw_up (fw_up (fw_up (fun _ => none) q (.inr (4, [.null, .int 0, .null, .null, .null, .int 0, .int 0, .int 0]))) q1 (.inl (kk 1, 40, .inr (.inr (.inr (.inr (fun _ => none))))))) q (.inr (4, [.ref q1, .int 0, .null, .null, .null, .int 0, .int 0, .int 0]))) q2 (.inl (kk 2, 6, .inr (.inr (.inr (.inr (fun _ => none))))))) q (.inr (4, [.ref q1, .int 0, .ref q2, .null, .null, .int 0, .int 0, .int 0]))) q3 (.inl (kk 3, 4, .inr (.inr (.inr (.inr (fun _ => none))))))) q (.inr (4, [.ref q1, .int 0, .ref q2, .ref q3, .null, .int 0, .int 0, .int 0]))) q4 (.inl (kk 4, 2, .inr (.inr (.inr (.inr (fun _ => none))))))) q (.inr (4, [.ref q1, .int 0, .ref q2, .ref q3, .ref q4, .int 0, .int 0, .int 0]))) rfl (fun H locs hP hD hS => ?_)
  refine lv_iconst (v := 0) hx hb dX4_init_38 (by decide) ?_
  refine lv_istore_n (lv' := [(1, .int 0), (0, .ref q)]) hx hb dX4_init_39 rfl hl (by decide) rfl (fun ls hl => ?_)
  obtain ⟨ad, h00, hj, e9⟩ := i_start (kk := kk) hq1 hq2 hq3 hq4 rfl rfl rfl rfl rfl
  rw [e9] at hP hD
  exact loop1 6 0 ad H locs ls rfl h00 hj hP hD hS (by rw [h00]; exact hl)
