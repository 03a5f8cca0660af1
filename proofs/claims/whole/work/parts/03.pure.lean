/-! SYSTEMS: a system's cells are named by a kind and an index: which there are (V), where they lie (ad), what they hold (E); its functional world sw V ad E -/
noncomputable def sw (V : Nat → Nat → Prop) (ad : Nat → Nat → Nat) (E : Nat → Nat → va_E) : fw_W := fun a =>
  @dite (Option va_E) (∃ q : Nat × Nat, V q.1 q.2 ∧ ad q.1 q.2 = a) (Classical.propDecidable _) (fun h => some (E h.choose.1 h.choose.2)) (fun _ => none)
def sj (V : Nat → Nat → Prop) (ad : Nat → Nat → Nat) : Prop := ∀ k i k' i', V k i → V k' i' → ad k i = ad k' i' → k = k' ∧ i = i'
theorem sw_at {V : Nat → Nat → Prop} {ad : Nat → Nat → Nat} {E : Nat → Nat → va_E} (hj : sj V ad) {k i : Nat} (h : V k i) : sw V ad E (ad k i) = some (E k i) := by
  have hx : ∃ q : Nat × Nat, V q.1 q.2 ∧ ad q.1 q.2 = ad k i := ⟨(k, i), h, rfl⟩
  unfold sw
  rw [dif_pos hx]
  obtain ⟨h1, h2⟩ := hj _ _ _ _ hx.choose_spec.1 h hx.choose_spec.2
  rw [h1, h2]
theorem sw_some {V : Nat → Nat → Prop} {ad : Nat → Nat → Nat} {E : Nat → Nat → va_E} {a : Nat} {e : va_E} (h : sw V ad E a = some e) : ∃ k i, V k i ∧ ad k i = a ∧ E k i = e := by
  unfold sw at h
  by_cases hx : ∃ q : Nat × Nat, V q.1 q.2 ∧ ad q.1 q.2 = a
  · rw [dif_pos hx] at h
    exact ⟨_, _, hx.choose_spec.1, hx.choose_spec.2, Option.some.inj h⟩
  · rw [dif_neg hx] at h
    cases h
theorem sw_none {V : Nat → Nat → Prop} {ad : Nat → Nat → Nat} {E : Nat → Nat → va_E} {a : Nat} (h : ∀ k i, V k i → ad k i ≠ a) : sw V ad E a = none := by
  unfold sw
  rw [dif_neg]
  rintro ⟨q, h1, h2⟩
  exact h _ _ h1 h2
theorem sw_ne {V : Nat → Nat → Prop} {ad : Nat → Nat → Nat} {E : Nat → Nat → va_E} {a : Nat} (hj : sj V ad) (h : sw V ad E a = none) {k i : Nat} (hv : V k i) : ad k i ≠ a := by
  intro q
  rw [← q, sw_at hj hv] at h
  cases h
theorem sw_ext {V V' : Nat → Nat → Prop} {ad ad' : Nat → Nat → Nat} {E E' : Nat → Nat → va_E} (hj : sj V ad) (hV : ∀ k i, V k i ↔ V' k i) (ha : ∀ k i, V k i → ad k i = ad' k i) (he : ∀ k i, V k i → E k i = E' k i) : sw V ad E = sw V' ad' E' := by
  have hj' : sj V' ad' := fun k i k' i' h1 h2 h3 => by
    rw [← ha k i ((hV k i).mpr h1), ← ha k' i' ((hV k' i').mpr h2)] at h3
    exact hj k i k' i' ((hV k i).mpr h1) ((hV k' i').mpr h2) h3
  funext a
  by_cases hx : ∃ q : Nat × Nat, V q.1 q.2 ∧ ad q.1 q.2 = a
  · obtain ⟨⟨k, i⟩, h1, h2⟩ := hx
    dsimp only at h1 h2
    have h2' : ad' k i = a := by rw [← ha k i h1]; exact h2
    rw [← h2, sw_at hj h1, h2, ← h2', sw_at hj' ((hV k i).mp h1), he k i h1]
  · rw [sw_none (fun k i h1 h2 => hx ⟨(k, i), h1, h2⟩), sw_none (fun k i h1 h2 => hx ⟨(k, i), (hV k i).mpr h1, by rw [ha k i ((hV k i).mpr h1)]; exact h2⟩)]
/-- one cell is another -/
theorem sw_up {V : Nat → Nat → Prop} {ad : Nat → Nat → Nat} {E E' : Nat → Nat → va_E} {e : va_E} (hj : sj V ad) {k i : Nat} (h : V k i) (he : E' k i = e) (ho : ∀ k' i', V k' i' → ¬ (k' = k ∧ i' = i) → E' k' i' = E k' i') : fw_up (sw V ad E) (ad k i) e = sw V ad E' := by
  funext a
  by_cases q : a = ad k i
  · subst q
    rw [fw_up_self, sw_at hj h, he]
  · rw [fw_up_ne q]
    by_cases hx : ∃ q : Nat × Nat, V q.1 q.2 ∧ ad q.1 q.2 = a
    · obtain ⟨⟨k', i'⟩, h1, h2⟩ := hx
      dsimp only at h1 h2
      rw [← h2, sw_at hj h1, sw_at hj h1, ho k' i' h1 (fun z => q (by rw [← h2, z.1, z.2]))]
    · rw [sw_none (fun k i h1 h2 => hx ⟨(k, i), h1, h2⟩), sw_none (fun k i h1 h2 => hx ⟨(k, i), h1, h2⟩)]
/-- one cell more -/
def sa (ad : Nat → Nat → Nat) (k i q : Nat) : Nat → Nat → Nat := fun k' i' => if k' = k ∧ i' = i then q else ad k' i'
theorem sa_self (ad : Nat → Nat → Nat) (k i q : Nat) : sa ad k i q k i = q := by simp [sa]
theorem sa_ne {ad : Nat → Nat → Nat} {k i q k' i' : Nat} (h : ¬ (k' = k ∧ i' = i)) : sa ad k i q k' i' = ad k' i' := by simp only [sa, if_neg h]
theorem sw_sj {V V' : Nat → Nat → Prop} {ad : Nat → Nat → Nat} {E : Nat → Nat → va_E} {k i q : Nat} (hj : sj V ad) (hq : sw V ad E q = none) (hV : ∀ k' i', V' k' i' → V k' i' ∨ (k' = k ∧ i' = i)) : sj V' (sa ad k i q) := by
  intro k1 i1 k2 i2 h1 h2 h3
  by_cases z1 : k1 = k ∧ i1 = i <;> by_cases z2 : k2 = k ∧ i2 = i
  · exact ⟨z1.1.trans z2.1.symm, z1.2.trans z2.2.symm⟩
  · rw [sa_ne z2, z1.1, z1.2, sa_self] at h3
    exact absurd h3.symm (sw_ne hj hq ((hV k2 i2 h2).resolve_right z2))
  · rw [sa_ne z1, z2.1, z2.2, sa_self] at h3
    exact absurd h3 (sw_ne hj hq ((hV k1 i1 h1).resolve_right z1))
  · rw [sa_ne z1, sa_ne z2] at h3
    exact hj _ _ _ _ ((hV k1 i1 h1).resolve_right z1) ((hV k2 i2 h2).resolve_right z2) h3
theorem sw_new {V V' : Nat → Nat → Prop} {ad : Nat → Nat → Nat} {E E' : Nat → Nat → va_E} {e : va_E} {k i q : Nat} (hj : sj V ad) (hq : sw V ad E q = none) (hv : V' k i) (hn : ¬ V k i) (hV : ∀ k' i', V' k' i' ↔ V k' i' ∨ (k' = k ∧ i' = i)) (he : E' k i = e) (ho : ∀ k' i', V k' i' → E' k' i' = E k' i') : fw_up (sw V ad E) q e = sw V' (sa ad k i q) E' := by
  have hj' := sw_sj (V' := V') hj hq (fun k' i' h => (hV k' i').mp h)
  funext a
  by_cases z : a = q
  · subst z
    rw [fw_up_self]
    have := sw_at (E := E') hj' hv
    rw [sa_self] at this
    rw [this, he]
  · rw [fw_up_ne z]
    by_cases hx : ∃ q : Nat × Nat, V q.1 q.2 ∧ ad q.1 q.2 = a
    · obtain ⟨⟨k', i'⟩, h1, h2⟩ := hx
      dsimp only at h1 h2
      have hne : ¬ (k' = k ∧ i' = i) := fun z => hn (by rw [← z.1, ← z.2]; exact h1)
      have := sw_at (E := E') hj' ((hV k' i').mpr (Or.inl h1))
      rw [sa_ne hne, h2] at this
      rw [this, ← h2, sw_at hj h1, ho k' i' h1]
    · rw [sw_none (fun k i h1 h2 => hx ⟨(k, i), h1, h2⟩), sw_none]
      intro k' i' h1 h2
      by_cases y : k' = k ∧ i' = i
      · rw [y.1, y.2, sa_self] at h2
        exact z h2.symm
      · rw [sa_ne y] at h2
        exact hx ⟨(k', i'), ((hV k' i').mp h1).resolve_right y, h2⟩
/-- the two stores: numbers and references, by a field's code and an index -/
def upI (I : Nat → Nat → Int32) (f i : Nat) (v : Int32) : Nat → Nat → Int32 := fun g j => if g = f then (if j = i then v else I f j) else I g j
def upO (O : Nat → Nat → Option Nat) (f i : Nat) (v : Option Nat) : Nat → Nat → Option Nat := fun g j => if g = f then (if j = i then v else O f j) else O g j
theorem upI_s (I : Nat → Nat → Int32) (f i : Nat) (v : Int32) : upI I f i v f i = v := by simp [upI]
theorem upI_n {I : Nat → Nat → Int32} {f i g j : Nat} {v : Int32} (h : ¬ (g = f ∧ j = i)) : upI I f i v g j = I g j := by
  unfold upI
  by_cases h1 : g = f
  · subst h1
    rw [if_pos rfl, if_neg (fun z => h ⟨rfl, z⟩)]
  · rw [if_neg h1]
theorem upO_s (O : Nat → Nat → Option Nat) (f i : Nat) (v : Option Nat) : upO O f i v f i = v := by simp [upO]
theorem upO_n {O : Nat → Nat → Option Nat} {f i g j : Nat} {v : Option Nat} (h : ¬ (g = f ∧ j = i)) : upO O f i v g j = O g j := by
  unfold upO
  by_cases h1 : g = f
  · subst h1
    rw [if_pos rfl, if_neg (fun z => h ⟨rfl, z⟩)]
  · rw [if_neg h1]
/-! CHAINS: the k-th behind; finite chains; their lengths, sums; what comes behind what -/
def wk (b : Nat → Option Nat) : Nat → Option Nat → Option Nat
  | 0, o => o
  | k + 1, o => wk b k (o.bind b)
theorem wk_none (b : Nat → Option Nat) : ∀ k, wk b k none = none := by
  intro k
  induction k with
  | zero => rfl
  | succ k ih => exact ih
theorem wk_some (b : Nat → Option Nat) (k i : Nat) : wk b (k + 1) (some i) = wk b k (b i) := rfl
theorem wk_end (b : Nat → Option Nat) : ∀ (k : Nat) (o : Option Nat), wk b (k + 1) o = (wk b k o).bind b := by
  intro k
  induction k with
  | zero => intro o; rfl
  | succ k ih => intro o; exact ih (o.bind b)
def fin (b : Nat → Option Nat) (o : Option Nat) : Prop := ∃ k, wk b k o = none
theorem fin_none (b : Nat → Option Nat) : fin b none := ⟨0, rfl⟩
theorem fin_next {b : Nat → Option Nat} {i : Nat} (h : fin b (some i)) : fin b (b i) := by
  obtain ⟨k, hk⟩ := h
  cases k with
  | zero => cases hk
  | succ k => exact ⟨k, hk⟩
theorem fin_some {b : Nat → Option Nat} {i : Nat} (h : fin b (b i)) : fin b (some i) := by
  obtain ⟨k, hk⟩ := h
  exact ⟨k + 1, hk⟩
noncomputable def clen (b : Nat → Option Nat) (o : Option Nat) : Nat := @dite Nat (∃ k, wk b k o = none) (Classical.propDecidable _) (fun h => Classical.choose (pk_least _ h)) (fun _ => 0)
theorem clen_spec {b : Nat → Option Nat} {o : Option Nat} (h : fin b o) : wk b (clen b o) o = none ∧ ∀ j, j < clen b o → ¬ wk b j o = none := by
  have h : ∃ k, wk b k o = none := h
  unfold clen
  rw [dif_pos h]
  exact Classical.choose_spec (pk_least (fun k => wk b k o = none) h)
theorem clen_eq {b : Nat → Option Nat} {o : Option Nat} {k : Nat} (h1 : wk b k o = none) (h2 : ∀ j, j < k → ¬ wk b j o = none) : clen b o = k := by
  obtain ⟨g1, g2⟩ := clen_spec (b := b) (o := o) ⟨k, h1⟩
  rcases Nat.lt_trichotomy (clen b o) k with h | h | h
  · exact absurd g1 (h2 _ h)
  · exact h
  · exact absurd h1 (g2 _ h)
theorem clen_none (b : Nat → Option Nat) : clen b none = 0 := clen_eq rfl (fun j hj => by omega)
theorem clen_some {b : Nat → Option Nat} {i : Nat} (h : fin b (some i)) : clen b (some i) = clen b (b i) + 1 := by
  obtain ⟨g1, g2⟩ := clen_spec (fin_next h)
  refine clen_eq g1 (fun j hj => ?_)
  cases j with
  | zero => intro q; cases q
  | succ j => exact g2 j (by omega)
def csf (b : Nat → Option Nat) (g : Nat → Int32) : Nat → Option Nat → Int32
  | 0, _ => 0
  | f + 1, o => match o with
    | none => 0
    | some i => g i + csf b g f (b i)
noncomputable def csum (b : Nat → Option Nat) (g : Nat → Int32) (o : Option Nat) : Int32 := csf b g (clen b o) o
theorem csum_none (b : Nat → Option Nat) (g : Nat → Int32) : csum b g none = 0 := by rw [csum, clen_none]; rfl
theorem csum_some {b : Nat → Option Nat} {i : Nat} (g : Nat → Int32) (h : fin b (some i)) : csum b g (some i) = g i + csum b g (b i) := by rw [csum, clen_some h]; rfl
def cin (b : Nat → Option Nat) (o : Option Nat) (x : Nat) : Prop := ∃ k, wk b k o = some x
theorem cin_none {b : Nat → Option Nat} {x : Nat} : ¬ cin b none x := by
  rintro ⟨k, h⟩
  rw [wk_none] at h
  cases h
theorem cin_some {b : Nat → Option Nat} {i x : Nat} : cin b (some i) x ↔ i = x ∨ cin b (b i) x := by
  constructor
  · rintro ⟨k, h⟩
    cases k with
    | zero => exact Or.inl (Option.some.inj h)
    | succ k => exact Or.inr ⟨k, h⟩
  · rintro (h | ⟨k, h⟩)
    · exact ⟨0, by rw [h]; rfl⟩
    · exact ⟨k + 1, h⟩
theorem fin_cut {b b' : Nat → Option Nat} (hb : ∀ j, b' j = b j ∨ b' j = none) : ∀ (k : Nat) (o : Option Nat), wk b k o = none → fin b' o := by
  intro k
  induction k with
  | zero => intro o h; exact ⟨0, h⟩
  | succ k ih =>
    intro o h
    cases o with
    | none => exact fin_none b'
    | some j =>
      refine fin_some ?_
      rcases hb j with q | q
      · rw [q]; exact ih (b j) h
      · rw [q]; exact fin_none b'
theorem wk_off {b b' : Nat → Option Nat} {x : Nat} (hb : ∀ j, j ≠ x → b' j = b j) : ∀ (k : Nat) (o : Option Nat), ¬ cin b o x → wk b' k o = wk b k o := by
  intro k
  induction k with
  | zero => intro o _; rfl
  | succ k ih =>
    intro o h
    cases o with
    | none => rw [wk_none, wk_none]
    | some j =>
      have hj : j ≠ x := fun q => h (cin_some.mpr (Or.inl q))
      rw [wk_some, wk_some, hb j hj]
      exact ih (b j) (fun q => h (cin_some.mpr (Or.inr q)))
theorem fin_couple {b b' : Nat → Option Nat} {x y : Nat} (hb : ∀ j, j ≠ x → b' j = b j) (hx : b' x = some y) (hy : fin b (some y)) (hn : ¬ cin b (some y) x) : ∀ (k : Nat) (o : Option Nat), wk b k o = none → fin b' o := by
  have hf : fin b' (some y) := by
    obtain ⟨k, hk⟩ := hy
    exact ⟨k, by rw [wk_off hb k _ hn]; exact hk⟩
  intro k
  induction k with
  | zero => intro o h; exact ⟨0, h⟩
  | succ k ih =>
    intro o h
    cases o with
    | none => exact fin_none b'
    | some j =>
      refine fin_some ?_
      by_cases q : j = x
      · rw [q, hx]; exact hf
      · rw [hb j q]; exact ih (b j) h
/-- a number as an index below n -/
def fnd (n : Nat) (a : Int32) : Option Nat := if a < 0 then none else if a.toNatClampNeg < n then some a.toNatClampNeg else none
theorem fnd_lt {n : Nat} {a : Int32} {i : Nat} (h : fnd n a = some i) : i < n ∧ a = nI i := by
  unfold fnd at h
  by_cases h1 : a < 0
  · rw [if_pos h1] at h; cases h
  · rw [if_neg h1] at h
    by_cases h2 : a.toNatClampNeg < n
    · rw [if_pos h2] at h
      cases h
      obtain ⟨j, hj, rfl⟩ := nI_of h1
      exact ⟨h2, by rw [nI_clamp hj]⟩
    · rw [if_neg h2] at h; cases h
theorem fnd_neg {n : Nat} {a : Int32} (h : a < 0) : fnd n a = none := by rw [fnd, if_pos h]
theorem fnd_big {n N : Nat} {a : Int32} (hN : N < 2 ^ 31) (hn : n ≤ N) (h : nI N ≤ a) : fnd n a = none := by
  unfold fnd
  by_cases h1 : a < 0
  · rw [if_pos h1]
  · rw [if_neg h1]
    obtain ⟨j, hj, rfl⟩ := nI_of h1
    rw [nI_leI hN hj] at h
    rw [nI_clamp hj, if_neg (by omega)]
theorem fnd_in {n N : Nat} {a : Int32} (hN : N < 2 ^ 31) (h0 : ¬ a < 0) (h : ¬ nI N ≤ a) : vp_in a N ∧ fnd n a = (if a.toNatClampNeg < n then some a.toNatClampNeg else none) := by
  obtain ⟨j, hj, rfl⟩ := nI_of h0
  rw [nI_leI hN hj] at h
  exact ⟨vp_in_nI (by omega) hN, by rw [fnd, if_neg h0]⟩
theorem fnd_nI {n i : Nat} (hn : n < 2 ^ 31) (h : i < n) : fnd n (nI i) = some i := by
  rw [fnd, if_neg (nI_pos (by omega)), nI_clamp (by omega), if_pos h]
theorem oc (o : Option Nat) : o = none ∨ ∃ j, o = some j := by
  cases o with
  | none => exact Or.inl rfl
  | some j => exact Or.inr ⟨j, rfl⟩
/-! WHAT EACH CALL ANSWERS AND DOES: the yard as n wagons and two stores. Numbers I: 0 kind, 1 load, 2 has one ahead, 3 the track where it stands first (wagons); 4 signal (tracks); 5 there, 6 kind, 7 places (rakes); 8 there, 9 rows, 10 columns (tables); 11 told; 20 + t the cells of table t. References O: 0 behind (wagons), 1 first (tracks), 2 + r the places of rake r -/
abbrev sI : Type := Nat → Nat → Int32
abbrev sO : Type := Nat → Nat → Option Nat
abbrev sR : Type := Int32 × sI × sO
def tl (I : sI) (f c : Int32) : sI := upI (upI (upI I 11 0 f) 11 1 c) 11 2 0
theorem tl_tl (I : sI) (f c f' c' : Int32) : tl (tl I f c) f' c' = tl I f' c' := by
  funext g j
  unfold tl upI
  by_cases h : g = 11 <;> by_cases h0 : j = 0 <;> by_cases h1 : j = 1 <;> by_cases h2 : j = 2 <;> simp_all
def num (o : Option Nat) : Int32 := match o with
  | none => -1
  | some j => nI j
def isOf (k a : Int32) : Prop := a = 0 ∨ k = a ∨ (k = 2 ∧ a = 1) ∨ (k = 4 ∧ a = 3)
def isKd (k : Int32) : Prop := ¬ k < 0 ∧ ¬ 4 < k
def hoot (k v : Int32) : Int32 := if k = 1 ∨ k = 2 then v + 1 else if k = 3 then 10 * v else if k = 4 then 10 * v - 1 else v
noncomputable def pull (I : sI) (O : sO) (w : Nat) : Int32 := if I 0 w = 4 then csum (O 0) (I 1) (O 0 w) - I 1 w else csum (O 0) (I 1) (O 0 w)
noncomputable def pif {α : Type} (P : Prop) (a b : α) : α := @ite α P (Classical.propDecidable P) a b
theorem pif_t {α : Type} {P : Prop} {a b : α} (h : P) : pif P a b = a := by unfold pif; rw [if_pos h]
theorem pif_f {α : Type} {P : Prop} {a b : α} (h : ¬ P) : pif P a b = b := by unfold pif; rw [if_neg h]
noncomputable def sp_couple (n : Nat) (I : sI) (O : sO) (a b : Int32) : sR := match fnd n a with
  | none => (-101, I, O)
  | some i => match fnd n b with
    | none => (-101, I, O)
    | some j => pif (¬ O 0 i = none ∨ ¬ I 2 j = 0 ∨ ¬ I 3 j = -1 ∨ cin (O 0) (some j) i) (-103, I, O) (1, upI I 2 j 1, upO O 0 i (some j))
def clr (I : sI) (o : Option Nat) : sI := match o with
  | none => I
  | some b => upI I 3 b (-1)
noncomputable def sp_stand (n : Nat) (I : sI) (O : sO) (t a : Int32) : sR := match fnd 6 t with
  | none => (-101, I, O)
  | some k => match fnd n a with
    | none => pif (a = -1) (num (O 1 k), clr I (O 1 k), upO O 1 k none) (-101, I, O)
    | some j => pif (¬ I 2 j = 0 ∨ ¬ I 3 j = -1) (-103, I, O) (num (O 1 k), upI (clr I (O 1 k)) 3 j t, upO O 1 k (some j))
noncomputable def sp_signal (I : sI) (O : sO) (t v : Int32) : sR := match fnd 6 t with
  | none => (-101, I, O)
  | some k => pif (v < -1) (-102, I, O) (I 4 k, upI I 4 k v, O)
/-- what is asked of the a-th wagon of a track -/
noncomputable def sp_at (I : sI) (O : sO) (t a : Int32) (f : Nat → sI → sR) : sR := match fnd 6 t with
  | none => (-101, I, O)
  | some k => pif (a < 0 ∨ 40 < a) (-102, I, O) (match wk (O 0) a.toNatClampNeg (O 1 k) with
    | none => (-201, tl I 1 (nI (clen (O 0) (O 1 k))), O)
    | some w => f w (tl I 0 a))
noncomputable def sp_wagonAt (I : sI) (O : sO) (t a : Int32) : sR := sp_at I O t a (fun w J => (nI w, J, O))
noncomputable def sp_load (I : sI) (O : sO) (t a v : Int32) : sR := sp_at I O t a (fun w J => (1, upI J 1 w v, O))
noncomputable def sp_cut (I : sI) (O : sO) (t a : Int32) : sR := sp_at I O t a (fun w J => match O 0 w with
  | none => (1, J, O)
  | some b => (1, upI J 2 b 0, upO O 0 w none))
noncomputable def sp_hoot (I : sI) (O : sO) (t a : Int32) : sR := sp_at I O t a (fun w J => (hoot (I 0 w) (I 1 w), J, O))
noncomputable def sp_pull (I : sI) (O : sO) (t a : Int32) : sR := sp_at I O t a (fun w J => pif (isOf (I 0 w) 3) (pull I O w, J, O) (-204, tl J 4 a, O))
noncomputable def sp_loadAs (I : sI) (O : sO) (t a k : Int32) : sR := pif (isKd k) (sp_at I O t a (fun w J => pif (isOf (I 0 w) k) (I 1 w, J, O) (-204, tl J 4 a, O))) (match fnd 6 t with
  | none => (-101, I, O)
  | some _ => (-102, I, O))
def clrO (O : sO) (f : Nat) : sO := fun g j => if g = f then none else O g j
def clrI (I : sI) (f : Nat) : sI := fun g j => if g = f then 0 else I g j
noncomputable def sp_rake (I : sI) (O : sO) (r k c : Int32) : sR := match fnd 4 r with
  | none => (-101, I, O)
  | some j => pif (¬ isKd k ∨ 12 < c) (-102, I, O) (pif (c < 0) (-202, tl I 2 0, O) (1, tl (upI (upI (upI I 5 j 1) 6 j k) 7 j c) 0 0, clrO O (2 + j)))
def sp_drop (I : sI) (O : sO) (r : Int32) : sR := match fnd 4 r with
  | none => (-101, I, O)
  | some j => (1, upI I 5 j 0, O)
/-- laying on: from place d on, what stands there now being o; the answer: FAILURE, how many, the places -/
noncomputable def ly (I : sI) (j : Nat) : Nat → Nat → Option Nat → sO → Int32 × Nat × sO
  | 0, d, _, O => (3, d, O)
  | f + 1, d, o, O => match o with
    | none => (0, d, O)
    | some w => pif (nI d < I 7 j) (pif (isOf (I 0 w) (I 6 j)) (ly I j f (d + 1) (O 0 w) (upO O (2 + j) d (some w))) (5, d, O)) (3, d, O)
noncomputable def sp_lay (I : sI) (O : sO) (r t : Int32) : sR := match fnd 4 r with
  | none => (-101, I, O)
  | some j => match fnd 6 t with
    | none => (-101, I, O)
    | some k => pif (I 5 j = 0 ∨ O 1 k = none) (-201, tl I 1 0, O) (pif ((ly I j 13 0 (O 1 k) O).1 = 0) (nI (ly I j 13 0 (O 1 k) O).2.1, tl I 0 (nI (ly I j 13 0 (O 1 k) O).2.1), (ly I j 13 0 (O 1 k) O).2.2) (-200 - (ly I j 13 0 (O 1 k) O).1, tl I (ly I j 13 0 (O 1 k) O).1 (nI (ly I j 13 0 (O 1 k) O).2.1), (ly I j 13 0 (O 1 k) O).2.2))
noncomputable def sp_places (I : sI) (O : sO) (r : Int32) : sR := match fnd 4 r with
  | none => (-101, I, O)
  | some j => pif (I 5 j = 0) (-201, tl I 1 0, O) (I 7 j, tl I 0 0, O)
noncomputable def sp_loadOn (I : sI) (O : sO) (r i : Int32) : sR := match fnd 4 r with
  | none => (-101, I, O)
  | some j => pif (I 5 j = 0) (-201, tl I 1 0, O) (pif (i < 0 ∨ ¬ i < I 7 j) (-203, tl I 3 0, O) (match O (2 + j) i.toNatClampNeg with
    | none => (-201, tl I 1 0, O)
    | some w => (I 1 w, tl I 0 0, O)))
noncomputable def sp_table (I : sI) (O : sO) (t a b : Int32) : sR := match fnd 2 t with
  | none => (-101, I, O)
  | some j => pif (12 < a ∨ b < 0 ∨ 6 < b) (-102, I, O) (pif (a < 0) (-202, tl I 2 0, O) (1, tl (clrI (upI (upI (upI I 8 j 1) 9 j a) 10 j b) (20 + j)) 0 0, O))
noncomputable def sp_add (I : sI) (O : sO) (t a b v : Int32) : sR := match fnd 2 t with
  | none => (-101, I, O)
  | some j => pif (I 8 j = 0) (-201, tl I 1 0, O) (pif (a < 0 ∨ ¬ a < I 9 j ∨ b < 0 ∨ ¬ b < I 10 j) (-203, tl I 3 0, O) (I (20 + j) (6 * a.toNatClampNeg + b.toNatClampNeg) + v, tl (upI I (20 + j) (6 * a.toNatClampNeg + b.toNatClampNeg) (I (20 + j) (6 * a.toNatClampNeg + b.toNatClampNeg) + v)) 0 0, O))
noncomputable def sp_raise (I : sI) (O : sO) (t : Int32) : sR := match fnd 6 t with
  | none => (-101, I, O)
  | some k => pif (I 4 k = -1) (-201, tl I 1 0, O) (-206, upI (tl I 6 0) 11 2 (I 4 k), O)
def sp_told (I : sI) (q : Int32) : Int32 := if q = 0 then I 11 0 else if q = 1 then I 11 1 else if q = 2 then I 11 2 else -101
def sp_about (n : Nat) (I : sI) (O : sO) (a q : Int32) : Int32 := match fnd n a with
  | none => -101
  | some i => if q = 0 then I 0 i else if q = 1 then I 1 i else if q = 2 then num (O 0 i) else if q = 3 then I 3 i else -101
noncomputable def sp_onRake (I : sI) (O : sO) (r i : Int32) : Int32 := match fnd 4 r with
  | none => -101
  | some j => pif (I 5 j = 0 ∨ i < 0 ∨ ¬ i < I 7 j) (-1) (num (O (2 + j) i.toNatClampNeg))
/-- what the references need: at most 40 wagons, no reference to another, chains that end -/
def xI (n : Nat) (O : sO) : Prop := n ≤ 40 ∧ (∀ f i j, O f i = some j → j < n) ∧ ∀ o, fin (O 0) o
/-- the whole invariant of a yard -/
def yI (n : Nat) (I : sI) (O : sO) : Prop := xI n O ∧
  (∀ i j, O 0 i = some j → i < n ∧ ¬ I 2 j = 0) ∧
  (∀ j, j < n → ¬ I 2 j = 0 → ∃ i, O 0 i = some j) ∧
  (∀ i i' j, O 0 i = some j → O 0 i' = some j → i = i') ∧
  (∀ t j, O 1 t = some j → t < 6 ∧ I 3 j = nI t) ∧
  (∀ j, j < n → ¬ I 3 j = -1 → ∃ t, O 1 t = some j) ∧
  (∀ r, ¬ I 5 r = 0 → ∃ c, c ≤ 12 ∧ I 7 r = nI c) ∧
  (∀ t, ¬ I 8 t = 0 → ∃ c d, c ≤ 12 ∧ d ≤ 6 ∧ I 9 t = nI c ∧ I 10 t = nI d) ∧
  (∀ i, i < n → isKd (I 0 i))
theorem wk_lt {b : Nat → Option Nat} {n : Nat} (hb : ∀ i j, b i = some j → j < n) : ∀ (k : Nat) (o : Option Nat) (j : Nat), (∀ x, o = some x → x < n) → wk b k o = some j → j < n := by
  intro k
  induction k with
  | zero => intro o j h1 h2; exact h1 j h2
  | succ k ih =>
    intro o j h1 h2
    cases o with
    | none => rw [wk_none] at h2; cases h2
    | some x => exact ih (b x) j (fun y hy => hb x y hy) h2
theorem xI_wk {n : Nat} {O : sO} (hI : xI n O) {k f t j : Nat} (h : wk (O 0) k (O f t) = some j) : j < n := wk_lt (fun i j h => hI.2.1 0 i j h) k (O f t) j (fun x hx => hI.2.1 f t x hx) h
/-- the wagon that is asked for: the a-th of the track t -/
noncomputable def rch (O : sO) (t a : Int32) : Option Nat := match fnd 6 t with
  | none => none
  | some k => pif (a < 0 ∨ 40 < a) none (wk (O 0) a.toNatClampNeg (O 1 k))
theorem rch_some {O : sO} {t a : Int32} {j : Nat} (h : rch O t a = some j) : ∃ k, fnd 6 t = some k ∧ ¬ (a < 0 ∨ 40 < a) ∧ wk (O 0) a.toNatClampNeg (O 1 k) = some j := by
  unfold rch at h
  cases hf : fnd 6 t with
  | none => rw [hf] at h; cases h
  | some k =>
    rw [hf] at h
    dsimp only at h
    by_cases hq : a < 0 ∨ 40 < a
    · rw [pif_t hq] at h; cases h
    · rw [pif_f hq] at h; exact ⟨k, rfl, hq, h⟩
theorem rch_lt {n : Nat} {O : sO} (hI : xI n O) {t a : Int32} {j : Nat} (h : rch O t a = some j) : j < n := by
  obtain ⟨k, -, -, h⟩ := rch_some h
  exact xI_wk hI h
theorem sp_at_some {I : sI} {O : sO} {t a : Int32} {j : Nat} (h : rch O t a = some j) (f : Nat → sI → sR) : sp_at I O t a f = f j (tl I 0 a) := by
  obtain ⟨k, h1, h2, h3⟩ := rch_some h
  unfold sp_at
  rw [h1]
  dsimp only
  rw [pif_f h2, h3]
theorem xI_clr {n f : Nat} {O : sO} (hI : xI n O) (hf : ¬ f = 0) : xI n (clrO O f) := by
  refine ⟨hI.1, fun g i j h => ?_, fun o => ?_⟩
  · unfold clrO at h
    by_cases q : g = f
    · rw [if_pos q] at h; cases h
    · rw [if_neg q] at h; exact hI.2.1 g i j h
  · have : clrO O f 0 = O 0 := by funext j; unfold clrO; rw [if_neg (fun z => hf z.symm)]
    rw [this]; exact hI.2.2 o
theorem xI_row {n f p j : Nat} {O : sO} (hI : xI n O) (hf : ¬ f = 0) (hj : j < n) : xI n (upO O f p (some j)) := by
  refine ⟨hI.1, fun g i j' h => ?_, fun o => ?_⟩
  · unfold upO at h
    by_cases q : g = f
    · rw [if_pos q] at h
      by_cases z : i = p
      · rw [if_pos z] at h; cases h; exact hj
      · rw [if_neg z] at h; exact hI.2.1 f i j' h
    · rw [if_neg q] at h; exact hI.2.1 g i j' h
  · have : upO O f p (some j) 0 = O 0 := by funext i; unfold upO; rw [if_neg (fun z => hf z.symm)]
    rw [this]; exact hI.2.2 o
