theorem pif_True {α : Type} {a b : α} : pif True a b = a := pif_t trivial
theorem pif_False {α : Type} {a b : α} : pif False a b = b := pif_f (fun h => h)
noncomputable def rchI (I : sI) (O : sO) (t a : Int32) : sI := match rch O t a with
  | none => I
  | some _ => tl I 0 a
theorem rchI_none {I : sI} {O : sO} {t a : Int32} (h : rch O t a = none) : rchI I O t a = I := by unfold rchI; rw [h]
theorem rchI_some {I : sI} {O : sO} {t a : Int32} {j : Nat} (h : rch O t a = some j) : rchI I O t a = tl I 0 a := by unfold rchI; rw [h]
def clrT (O : sO) (f d : Nat) : sO := fun g p => if g = f then (if p < d then none else O g p) else O g p
def clrU (I : sI) (f d : Nat) : sI := fun g p => if g = f then (if p < d then 0 else I g p) else I g p
theorem clrT_0 (O : sO) (f : Nat) : clrT O f 0 = O := by
  funext g p
  unfold clrT
  by_cases h : g = f <;> simp [h]
theorem clrU_0 (I : sI) (f : Nat) : clrU I f 0 = I := by
  funext g p
  unfold clrU
  by_cases h : g = f <;> simp [h]
theorem clrT_s (O : sO) (f d : Nat) : upO (clrT O f d) f d none = clrT O f (d + 1) := by
  funext g p
  unfold upO clrT
  by_cases h : g = f
  · subst h
    by_cases h1 : p = d
    · subst h1; simp
    · by_cases h2 : p < d
      · have h3 : p < d + 1 := by omega
        simp [h1, h2, h3]
      · have h3 : ¬ p < d + 1 := by omega
        simp [h1, h2, h3]
  · simp [h]
theorem clrU_s (I : sI) (f d : Nat) : upI (clrU I f d) f d 0 = clrU I f (d + 1) := by
  funext g p
  unfold upI clrU
  by_cases h : g = f
  · subst h
    by_cases h1 : p = d
    · subst h1; simp
    · by_cases h2 : p < d
      · have h3 : p < d + 1 := by omega
        simp [h1, h2, h3]
      · have h3 : ¬ p < d + 1 := by omega
        simp [h1, h2, h3]
  · simp [h]
theorem x_clr12 {kk : Nat → ClassId} {ad : Nat → Nat → Nat} {n : Nat} {I : sI} {O : sO} (hj : sj (xV n) ad) {r : Nat} : xw kk ad n I (clrT O (2 + r) 12) = xw kk ad n I (clrO O (2 + r)) := by
  refine sw_ext hj (fun _ _ => Iff.rfl) (fun _ _ _ => rfl) (fun k i hv => ?_)
  have h0 : ∀ p, clrT O (2 + r) 12 0 p = clrO O (2 + r) 0 p := fun p => by
    unfold clrT clrO
    rw [if_neg (by omega), if_neg (by omega)]
  have h1 : ∀ p, clrT O (2 + r) 12 1 p = clrO O (2 + r) 1 p := fun p => by
    unfold clrT clrO
    rw [if_neg (by omega), if_neg (by omega)]
  have h8 : ∀ p, p < 12 → clrT O (2 + r) 12 (2 + i) p = clrO O (2 + r) (2 + i) p := fun p hp => by
    unfold clrT clrO
    by_cases h : 2 + i = 2 + r
    · rw [if_pos h, if_pos h, if_pos hp]
    · rw [if_neg h, if_neg h]
  have h9 : (fun j => if j < 12 then (clrT O (2 + r) 12 (2 + i) j).map (ad 5) else none) = (fun j => if j < 12 then (clrO O (2 + r) (2 + i) j).map (ad 5) else none) := by
    funext j
    by_cases hp : j < 12
    · rw [if_pos hp, if_pos hp, h8 j hp]
    · rw [if_neg hp, if_neg hp]
  unfold xE
  split <;> simp only [h0, h1, h9]
theorem x_clr72 {kk : Nat → ClassId} {ad : Nat → Nat → Nat} {n : Nat} {I : sI} {O : sO} (hj : sj (xV n) ad) {r : Nat} : xw kk ad n (clrU I (20 + r) 72) O = xw kk ad n (clrI I (20 + r)) O := by
  refine sw_ext hj (fun _ _ => Iff.rfl) (fun _ _ _ => rfl) (fun k i hv => ?_)
  have h0 : ∀ g p, g < 20 → clrU I (20 + r) 72 g p = clrI I (20 + r) g p := fun g p hg => by
    unfold clrU clrI
    rw [if_neg (by omega), if_neg (by omega)]
  have h8 : ∀ p, p < 72 → clrU I (20 + r) 72 (20 + i) p = clrI I (20 + r) (20 + i) p := fun p hp => by
    unfold clrU clrI
    by_cases h : 20 + i = 20 + r
    · rw [if_pos h, if_pos h, if_pos hp]
    · rw [if_neg h, if_neg h]
  have h9 : (fun j => if j < 72 then clrU I (20 + r) 72 (20 + i) j else 0) = (fun j => if j < 72 then clrI I (20 + r) (20 + i) j else 0) := by
    funext j
    by_cases hp : j < 72
    · rw [if_pos hp, if_pos hp, h8 j hp]
    · rw [if_neg hp, if_neg hp]
  unfold xE
  split <;> simp only [h0 0 _ (by omega), h0 1 _ (by omega), h0 2 _ (by omega), h0 3 _ (by omega), h0 4 _ (by omega), h0 5 _ (by omega), h0 6 _ (by omega), h0 7 _ (by omega), h0 8 _ (by omega), h0 9 _ (by omega), h0 10 _ (by omega), h0 11 _ (by omega), h9]

set_option maxHeartbeats 4000000 in
set_option maxRecDepth 100000 in
theorem c_X0_renew (l : Launch) (D : va_G) (kk : Nat → ClassId) (ad : Nat → Nat → Nat) (n : Nat) (I : sI) (O : sO) (hj : sj (xV n) ad) (hI : xI n O) {r0 : Nat} (hr0 : r0 < 4) (a b : Int32) : fw_Mv l yX0_renew wsX0_renew { frames := 0, cells := 0, slots := 0, locals := 0 } 0 0 D vwCl (xT kk) (xw kk ad n I O) [.ref (ad 7 r0), .int a, .int b] (fun w1 => w1 = xw kk ad n (upI (upI (upI I 5 r0 1) 6 r0 a) 7 r0 b) (clrO O (2 + r0))) := by
  refine fw_ofv (cc := cX0_renew) (maxL := 4) (ret := none) (by decide) rfl (Nat.le_of_ble_eq_true rfl) ?_
  intro p e s m args below meth c A ls hx hb hml hr hlocks hnm hts hown hK hP hD hA hS hl
  have hown : s.vm.findClass RX0 = some m.cls := hown
  have hl : lv_has ls 4 [(0, .ref (ad 7 r0)), (1, .int a), (2, .int b)] := hl
  have in0 : ∀ w ∈ u_ws RX0 TX0 4, w ∈ wsX0_renew := by decide +kernel
  have loop : ∀ (J : sI), upI (upI (upI I 5 r0 1) 6 r0 a) 7 r0 b = J → ∀ (f d : Nat) (H : Heap) (locs : List Loc) (ls : Array Slot), d + f = 12 → fw_P D vwCl (xw kk ad n J (clrT O (2 + r0) d)) H → fw_D A (xw kk ad n J (clrT O (2 + r0) d)) → va_S A s.heap H locs → lv_has ls 4 [(3, .int (nI d)), (0, .ref (ad 7 r0)), (1, .int a), (2, .int b)] → W p l e { frames := 0, cells := 0, slots := 0, locals := 0 } s m args below meth c H locs 0 0 (MQ below (va_Qv (fun w1 => w1 = xw kk ad n (upI (upI (upI I 5 r0 1) 6 r0 a) 7 r0 b) (clrO O (2 + r0))) (fw_B D vwCl (xT kk) A) A) args s 0 0 A) (F0 m 17 ls []) := by
    intro J hJ f
    induction f with
    | zero =>
      intro d H locs ls hdf hP hD hS hl
      obtain rfl : d = 12 := by omega
      refine lv_iload_n hx hb dX0_renew_17 rfl (lv_at hl 0 rfl) ?_
      refine lv_aload_n hx hb dX0_renew_18 rfl (lv_at hl 1 rfl) ?_
      refine fw_get (v := .ref (ad 8 r0)) (C := RX0) (T := TX0) (N := 4) hx hb hts in0 hown hK hP (x_at7 hj hr0) rfl 3 (by decide) (hts (.fieldLink RX0 11 "WagonSidings$Rake" "row" "[LWagonSidings$Wagon;") (by decide +kernel)) (fun _ h9 => h9) rfl dX0_renew_19 ?_
      refine fw_alen (v := nI 12) hx hb hK hP 1 (x_at8 hj hr0) rfl rfl dX0_renew_22 ?_
      refine lv_icmp_ge (tgt := 39) hx hb dX0_renew_23 (by decide) (fun _ => ?_) (fun c9 => absurd (nI_le (Nat.le_refl _) (by decide)) c9)
      exact fw_vret hx hb hr hlocks hK hP hD hS dX0_renew_39 (by rw [hJ]; exact x_clr12 hj)
    | succ f ih =>
      intro d H locs ls hdf hP hD hS hl
      refine lv_iload_n hx hb dX0_renew_17 rfl (lv_at hl 0 rfl) ?_
      refine lv_aload_n hx hb dX0_renew_18 rfl (lv_at hl 1 rfl) ?_
      refine fw_get (v := .ref (ad 8 r0)) (C := RX0) (T := TX0) (N := 4) hx hb hts in0 hown hK hP (x_at7 hj hr0) rfl 3 (by decide) (hts (.fieldLink RX0 11 "WagonSidings$Rake" "row" "[LWagonSidings$Wagon;") (by decide +kernel)) (fun _ h9 => h9) rfl dX0_renew_19 ?_
      refine fw_alen (v := nI 12) hx hb hK hP 1 (x_at8 hj hr0) rfl rfl dX0_renew_22 ?_
      refine lv_icmp_ge (tgt := 39) hx hb dX0_renew_23 (by decide) (fun c9 => absurd c9 (nI_ge (by omega) (by omega))) (fun _ => ?_)
      refine lv_aload_n hx hb dX0_renew_26 rfl (lv_at hl 1 rfl) ?_
      refine fw_get (v := .ref (ad 8 r0)) (C := RX0) (T := TX0) (N := 4) hx hb hts in0 hown hK hP (x_at7 hj hr0) rfl 3 (by decide) (hts (.fieldLink RX0 11 "WagonSidings$Rake" "row" "[LWagonSidings$Wagon;") (by decide +kernel)) (fun _ h9 => h9) rfl dX0_renew_27 ?_
      refine lv_iload_n hx hb dX0_renew_30 rfl (lv_at hl 0 rfl) ?_
      refine lv_null hx hb dX0_renew_31 ?_
      refine fw_astN (w1 := xw kk ad n J (clrT O (2 + r0) (d + 1))) hx hb hK hP hD hS 1 (x_at8 hj hr0) rfl (vp_in_nI (by omega) (by decide)) dX0_renew_32 (by rw [nI_clamp (by omega), ← clrT_s]; exact x_row (o := none) hj hr0 (by omega)) (fun H locs hP hD hS => ?_)
      refine lv_iinc (v := nI (d + 1)) (lv' := [(3, .int (nI (d + 1))), (0, .ref (ad 7 r0)), (1, .int a), (2, .int b)]) hx hb dX0_renew_33 hl (k := 0) rfl (nI_1 d) (by decide) rfl (fun ls hl => ?_)
      refine lv_goto (tgt := 17) hx hb dX0_renew_36 (by decide) ?_
      exact ih (d + 1) H locs ls (by omega) hP hD hS (lv_sub hl [0, 1, 2, 3] rfl)
  refine lv_aload_n hx hb dX0_renew_0 rfl (lv_at hl 0 rfl) ?_
  refine lv_iconst (v := 1) hx hb dX0_renew_1 (by decide) ?_
  refine fw_put (v := .int 1) (ty := .boolean) (C := RX0) (T := TX0) (N := 4) hx hb hts in0 tyX0 tyX0_ok nmX0 hown hK hP hD hS (x_at7 hj hr0) rfl 0 (by decide) (hts (.fieldLink RX0 17 "WagonSidings$Rake" "made" "Z") (by decide +kernel)) (fun _ h9 => h9) rfl (by decide +kernel) rfl rfl (Nat.le_of_ble_eq_true rfl) dX0_renew_2 (x_put7_0 hj hr0) (fun H locs hP hD hS => ?_)
  refine lv_aload_n hx hb dX0_renew_5 rfl (lv_at hl 0 rfl) ?_
  refine lv_iload_n hx hb dX0_renew_6 rfl (lv_at hl 1 rfl) ?_
  refine fw_put (v := .int a) (ty := .int) (C := RX0) (T := TX0) (N := 4) hx hb hts in0 tyX0 tyX0_ok nmX0 hown hK hP hD hS (x_at7 hj hr0) rfl 1 (by decide) (hts (.fieldLink RX0 21 "WagonSidings$Rake" "kind" "I") (by decide +kernel)) (fun _ h9 => h9) rfl (by decide +kernel) rfl rfl (Nat.le_of_ble_eq_true rfl) dX0_renew_7 (x_put7_1 hj hr0) (fun H locs hP hD hS => ?_)
  refine lv_aload_n hx hb dX0_renew_10 rfl (lv_at hl 0 rfl) ?_
  refine lv_iload_n hx hb dX0_renew_11 rfl (lv_at hl 2 rfl) ?_
  refine fw_put (v := .int b) (ty := .int) (C := RX0) (T := TX0) (N := 4) hx hb hts in0 tyX0 tyX0_ok nmX0 hown hK hP hD hS (x_at7 hj hr0) rfl 2 (by decide) (hts (.fieldLink RX0 25 "WagonSidings$Rake" "size" "I") (by decide +kernel)) (fun _ h9 => h9) rfl (by decide +kernel) rfl rfl (Nat.le_of_ble_eq_true rfl) dX0_renew_12 (x_put7_2 hj hr0) (fun H locs hP hD hS => ?_)
  refine lv_iconst (v := 0) hx hb dX0_renew_15 (by decide) ?_
  refine lv_istore_n (lv' := [(3, .int 0), (0, .ref (ad 7 r0)), (1, .int a), (2, .int b)]) hx hb dX0_renew_16 rfl hl (by decide) rfl (fun ls hl => ?_)
  exact loop _ rfl 12 0 H locs ls rfl (by rw [clrT_0]; exact hP) (by rw [clrT_0]; exact hD) hS (lv_sub hl [0, 1, 2, 3] rfl)

set_option maxHeartbeats 4000000 in
set_option maxRecDepth 100000 in
theorem c_X1_renew (l : Launch) (D : va_G) (kk : Nat → ClassId) (ad : Nat → Nat → Nat) (n : Nat) (I : sI) (O : sO) (hj : sj (xV n) ad) (hI : xI n O) {t0 : Nat} (ht0 : t0 < 2) (a b : Int32) : fw_Mv l yX1_renew wsX1_renew { frames := 0, cells := 0, slots := 0, locals := 0 } 0 0 D vwCl (xT kk) (xw kk ad n I O) [.ref (ad 9 t0), .int a, .int b] (fun w1 => w1 = xw kk ad n (clrI (upI (upI (upI I 8 t0 1) 9 t0 a) 10 t0 b) (20 + t0)) O) := by
  refine fw_ofv (cc := cX1_renew) (maxL := 4) (ret := none) (by decide) rfl (Nat.le_of_ble_eq_true rfl) ?_
  intro p e s m args below meth c A ls hx hb hml hr hlocks hnm hts hown hK hP hD hA hS hl
  have hown : s.vm.findClass RX1 = some m.cls := hown
  have hl : lv_has ls 4 [(0, .ref (ad 9 t0)), (1, .int a), (2, .int b)] := hl
  have in1 : ∀ w ∈ u_ws RX1 TX1 4, w ∈ wsX1_renew := by decide +kernel
  have loop : ∀ (J : sI), upI (upI (upI I 8 t0 1) 9 t0 a) 10 t0 b = J → ∀ (f d : Nat) (H : Heap) (locs : List Loc) (ls : Array Slot), d + f = 72 → fw_P D vwCl (xw kk ad n (clrU J (20 + t0) d) O) H → fw_D A (xw kk ad n (clrU J (20 + t0) d) O) → va_S A s.heap H locs → lv_has ls 4 [(3, .int (nI d)), (0, .ref (ad 9 t0)), (1, .int a), (2, .int b)] → W p l e { frames := 0, cells := 0, slots := 0, locals := 0 } s m args below meth c H locs 0 0 (MQ below (va_Qv (fun w1 => w1 = xw kk ad n (clrI (upI (upI (upI I 8 t0 1) 9 t0 a) 10 t0 b) (20 + t0)) O) (fw_B D vwCl (xT kk) A) A) args s 0 0 A) (F0 m 17 ls []) := by
    intro J hJ f
    induction f with
    | zero =>
      intro d H locs ls hdf hP hD hS hl
      obtain rfl : d = 72 := by omega
      refine lv_iload_n hx hb dX1_renew_17 rfl (lv_at hl 0 rfl) ?_
      refine lv_aload_n hx hb dX1_renew_18 rfl (lv_at hl 1 rfl) ?_
      refine fw_get (v := .ref (ad 10 t0)) (C := RX1) (T := TX1) (N := 4) hx hb hts in1 hown hK hP (x_at9 hj ht0) rfl 3 (by decide) (hts (.fieldLink RX1 9 "WagonSidings$Table" "cells" "[I") (by decide +kernel)) (fun _ h9 => h9) rfl dX1_renew_19 ?_
      refine fw_alen (v := nI 72) hx hb hK hP 0 (x_at10 hj ht0) rfl rfl dX1_renew_22 ?_
      refine lv_icmp_ge (tgt := 39) hx hb dX1_renew_23 (by decide) (fun _ => ?_) (fun c9 => absurd (nI_le (Nat.le_refl _) (by decide)) c9)
      exact fw_vret hx hb hr hlocks hK hP hD hS dX1_renew_39 (by rw [hJ]; exact x_clr72 hj)
    | succ f ih =>
      intro d H locs ls hdf hP hD hS hl
      refine lv_iload_n hx hb dX1_renew_17 rfl (lv_at hl 0 rfl) ?_
      refine lv_aload_n hx hb dX1_renew_18 rfl (lv_at hl 1 rfl) ?_
      refine fw_get (v := .ref (ad 10 t0)) (C := RX1) (T := TX1) (N := 4) hx hb hts in1 hown hK hP (x_at9 hj ht0) rfl 3 (by decide) (hts (.fieldLink RX1 9 "WagonSidings$Table" "cells" "[I") (by decide +kernel)) (fun _ h9 => h9) rfl dX1_renew_19 ?_
      refine fw_alen (v := nI 72) hx hb hK hP 0 (x_at10 hj ht0) rfl rfl dX1_renew_22 ?_
      refine lv_icmp_ge (tgt := 39) hx hb dX1_renew_23 (by decide) (fun c9 => absurd c9 (nI_ge (by omega) (by omega))) (fun _ => ?_)
      refine lv_aload_n hx hb dX1_renew_26 rfl (lv_at hl 1 rfl) ?_
      refine fw_get (v := .ref (ad 10 t0)) (C := RX1) (T := TX1) (N := 4) hx hb hts in1 hown hK hP (x_at9 hj ht0) rfl 3 (by decide) (hts (.fieldLink RX1 9 "WagonSidings$Table" "cells" "[I") (by decide +kernel)) (fun _ h9 => h9) rfl dX1_renew_27 ?_
      refine lv_iload_n hx hb dX1_renew_30 rfl (lv_at hl 0 rfl) ?_
      refine lv_iconst (v := 0) hx hb dX1_renew_31 (by decide) ?_
      refine fw_iast (w1 := xw kk ad n (clrU J (20 + t0) (d + 1)) O) hx hb hK hP hD hS 0 (x_at10 hj ht0) rfl (vp_in_nI (by omega) (by decide)) dX1_renew_32 (by rw [nI_clamp (by omega), ← clrU_s]; exact x_cell hj ht0 (by omega)) (fun H locs hP hD hS => ?_)
      refine lv_iinc (v := nI (d + 1)) (lv' := [(3, .int (nI (d + 1))), (0, .ref (ad 9 t0)), (1, .int a), (2, .int b)]) hx hb dX1_renew_33 hl (k := 0) rfl (nI_1 d) (by decide) rfl (fun ls hl => ?_)
      refine lv_goto (tgt := 17) hx hb dX1_renew_36 (by decide) ?_
      exact ih (d + 1) H locs ls (by omega) hP hD hS (lv_sub hl [0, 1, 2, 3] rfl)
  refine lv_aload_n hx hb dX1_renew_0 rfl (lv_at hl 0 rfl) ?_
  refine lv_iconst (v := 1) hx hb dX1_renew_1 (by decide) ?_
  refine fw_put (v := .int 1) (ty := .boolean) (C := RX1) (T := TX1) (N := 4) hx hb hts in1 tyX1 tyX1_ok nmX1 hown hK hP hD hS (x_at9 hj ht0) rfl 0 (by decide) (hts (.fieldLink RX1 15 "WagonSidings$Table" "made" "Z") (by decide +kernel)) (fun _ h9 => h9) rfl (by decide +kernel) rfl rfl (Nat.le_of_ble_eq_true rfl) dX1_renew_2 (x_put9_0 hj ht0) (fun H locs hP hD hS => ?_)
  refine lv_aload_n hx hb dX1_renew_5 rfl (lv_at hl 0 rfl) ?_
  refine lv_iload_n hx hb dX1_renew_6 rfl (lv_at hl 1 rfl) ?_
  refine fw_put (v := .int a) (ty := .int) (C := RX1) (T := TX1) (N := 4) hx hb hts in1 tyX1 tyX1_ok nmX1 hown hK hP hD hS (x_at9 hj ht0) rfl 1 (by decide) (hts (.fieldLink RX1 19 "WagonSidings$Table" "rows" "I") (by decide +kernel)) (fun _ h9 => h9) rfl (by decide +kernel) rfl rfl (Nat.le_of_ble_eq_true rfl) dX1_renew_7 (x_put9_1 hj ht0) (fun H locs hP hD hS => ?_)
  refine lv_aload_n hx hb dX1_renew_10 rfl (lv_at hl 0 rfl) ?_
  refine lv_iload_n hx hb dX1_renew_11 rfl (lv_at hl 2 rfl) ?_
  refine fw_put (v := .int b) (ty := .int) (C := RX1) (T := TX1) (N := 4) hx hb hts in1 tyX1 tyX1_ok nmX1 hown hK hP hD hS (x_at9 hj ht0) rfl 2 (by decide) (hts (.fieldLink RX1 23 "WagonSidings$Table" "columns" "I") (by decide +kernel)) (fun _ h9 => h9) rfl (by decide +kernel) rfl rfl (Nat.le_of_ble_eq_true rfl) dX1_renew_12 (x_put9_2 hj ht0) (fun H locs hP hD hS => ?_)
  refine lv_iconst (v := 0) hx hb dX1_renew_15 (by decide) ?_
  refine lv_istore_n (lv' := [(3, .int 0), (0, .ref (ad 9 t0)), (1, .int a), (2, .int b)]) hx hb dX1_renew_16 rfl hl (by decide) rfl (fun ls hl => ?_)
  exact loop _ rfl 72 0 H locs ls rfl (by rw [clrU_0]; exact hP) (by rw [clrU_0]; exact hD) hS (lv_sub hl [0, 1, 2, 3] rfl)

set_option maxHeartbeats 4000000 in
set_option maxRecDepth 100000 in
theorem c_X4_reach (l : Launch) (D : va_G) (kk : Nat → ClassId) (ad : Nat → Nat → Nat) (n : Nat) (I : sI) (O : sO) (hj : sj (xV n) ad) (hI : xI n O) (t a : Int32) : fw_Mq l yX4_reach wsX4_reach { frames := 1, cells := 0, slots := 0, locals := 23 } 0 0 D vwCl (xT kk) (xw kk ad n I O) [.ref (ad 0 0), .int t, .int a] (fun r w1 => r = (rch O t a).map (ad 5) ∧ w1 = xw kk ad n (rchI I O t a) O) := by
  refine fw_ofq (cc := cX4_reach) (maxL := 5) (ret := (some (.object "WagonSidings$Wagon"))) (by decide) rfl (Nat.le_of_ble_eq_true rfl) ?_
  intro p e s m args below meth c A ls hx hb hml hr hlocks hnm hts hown hK hP hD hA hS hl
  have hown : s.vm.findClass RX4 = some m.cls := hown
  have hl : lv_has ls 5 [(0, .ref (ad 0 0)), (1, .int t), (2, .int a)] := hl
  refine lv_aload_n hx hb dX4_reach_0 rfl (lv_at hl 0 rfl) ?_
  refine lv_iload_n hx hb dX4_reach_1 rfl (lv_at hl 1 rfl) ?_
  refine fw_callq (va_runV (As := [.int t]) (rest := []) ⟨hx, hb, hml, hown, hts⟩ (c_X4_findTrack l D kk ad n I O hj hI t _) (cwV 1 hts gX4_reach_X4_findTrack rfl rfl rfl (by decide +kernel) ⟨Nat.le_of_ble_eq_true rfl, Nat.le_of_ble_eq_true rfl⟩) (fw_preV hK hP (ci := 4) rfl (x_at0 hj)) rfl rfl hl.1 rfl (lv_room (Nat.le_of_ble_eq_true rfl)) dX4_reach_2 ⟨Nat.le_of_ble_eq_true rfl, Nat.le_of_ble_eq_true rfl⟩) hD hS hA (fun r w1 H locs hq hP hD hS => ?_)
  obtain ⟨rfl, rfl⟩ := hq
  rcases oc (fnd 6 t) with hf1 | ⟨i2, hf1⟩
  · refine W.eq (g2 := F0 m 5 ls [.null]) (by rw [hf1]; rfl) ?_
    refine lv_astore_nN (lv' := [(3, .null), (0, .ref (ad 0 0)), (1, .int t), (2, .int a)]) hx hb dX4_reach_5 rfl hl (by decide) rfl (fun ls hl => ?_)
    refine lv_aload_nN hx hb dX4_reach_6 rfl (lv_at hl 0 rfl) ?_
    refine lv_ifnullN (tgt := 17) hx hb dX4_reach_7 (by decide) ?_
    refine lv_null hx hb dX4_reach_17 ?_
    exact fw_aret (r := none) hx hb hr hlocks hK hP hD hS dX4_reach_18 ⟨by simp [rch, pif_True, pif_False, hf1, Option.map], by rw [show rchI I O t a = I from by simp [rch, pif_True, pif_False, hf1, rchI]]⟩
  · have hi2 := (fnd_lt hf1).1
    refine W.eq (g2 := F0 m 5 ls [.ref (ad 6 i2)]) (by rw [hf1]; rfl) ?_
    refine lv_astore_n (lv' := [(3, .ref (ad 6 i2)), (0, .ref (ad 0 0)), (1, .int t), (2, .int a)]) hx hb dX4_reach_5 rfl hl (by decide) rfl (fun ls hl => ?_)
    refine lv_aload_n hx hb dX4_reach_6 rfl (lv_at hl 0 rfl) ?_
    refine lv_ifnull hx hb dX4_reach_7 ?_
    refine lv_iload_n hx hb dX4_reach_10 rfl (lv_at hl 3 rfl) ?_
    refine fw_calli (va_runS (As := [.int a]) (rest := []) ⟨hx, hb, hml, hown, hts⟩ (c_X4_isOutsideTrack l D kk _ a _) (va_cwS 1 hts gX4_reach_X4_isOutsideTrack rfl rfl rfl (by decide +kernel) ⟨Nat.le_of_ble_eq_true rfl, Nat.le_of_ble_eq_true rfl⟩) (fw_preS hK hP) rfl rfl hl.1 rfl (lv_room (Nat.le_of_ble_eq_true rfl)) dX4_reach_11 ⟨Nat.le_of_ble_eq_true rfl, Nat.le_of_ble_eq_true rfl⟩) hD hS hA (fun r w1 H locs hq hP hD hS => ?_)
    obtain ⟨rfl, rfl⟩ := hq
    by_cases hb3 : (a < 0 ∨ 40 < a)
    · rw [pif_t hb3]
      refine lv_if_eq (tgt := 19) hx hb dX4_reach_14 (by decide) (fun c9 => absurd c9 (by decide)) (fun _ => ?_)
      refine lv_null hx hb dX4_reach_17 ?_
      exact fw_aret (r := none) hx hb hr hlocks hK hP hD hS dX4_reach_18 ⟨by simp [rch, pif_True, pif_False, hf1, hb3, Option.map], by rw [show rchI I O t a = I from by simp [rch, pif_True, pif_False, hf1, hb3, rchI]]⟩
    · rw [pif_f hb3]
      refine lv_if_eq (tgt := 19) hx hb dX4_reach_14 (by decide) (fun _ => ?_) (fun c9 => absurd c9 (by decide))
      refine lv_aload_n hx hb dX4_reach_19 rfl (lv_at hl 0 rfl) ?_
      refine lv_iload_n hx hb dX4_reach_20 rfl (lv_at hl 3 rfl) ?_
      refine fw_callq (va_runV (As := [.int a]) (rest := []) ⟨hx, hb, hml, hown, hts⟩ (c_X2_nth l D kk ad n I O hj hI hi2 a hb3 _) (cwV 1 hts gX4_reach_X2_nth rfl rfl rfl (by decide +kernel) ⟨Nat.le_of_ble_eq_true rfl, Nat.le_of_ble_eq_true rfl⟩) (fw_preV hK hP (ci := 2) rfl (x_at6 hj hi2)) rfl rfl hl.1 rfl (lv_room (Nat.le_of_ble_eq_true rfl)) dX4_reach_21 ⟨Nat.le_of_ble_eq_true rfl, Nat.le_of_ble_eq_true rfl⟩) hD hS hA (fun r w1 H locs hq hP hD hS => ?_)
      obtain ⟨rfl, rfl⟩ := hq
      rcases oc (wk (O 0) a.toNatClampNeg (O 1 i2)) with hf4 | ⟨i5, hf4⟩
      · refine W.eq (g2 := F0 m 24 ls [.null]) (by rw [hf4]; rfl) ?_
        refine lv_astoreN (lv' := [(4, .null), (3, .ref (ad 6 i2)), (0, .ref (ad 0 0)), (1, .int t), (2, .int a)]) hx hb dX4_reach_24 hl (by decide) rfl (fun ls hl => ?_)
        refine lv_aloadN hx hb dX4_reach_26 (lv_at hl 0 rfl) ?_
        refine lv_ifnullN (tgt := 37) hx hb dX4_reach_28 (by decide) ?_
        refine lv_aloadN hx hb dX4_reach_37 (lv_at hl 0 rfl) ?_
        exact fw_aret (r := none) hx hb hr hlocks hK hP hD hS dX4_reach_39 ⟨by simp [rch, pif_True, pif_False, hf1, hb3, hf4, Option.map], by rw [show rchI I O t a = I from by simp [rch, pif_True, pif_False, hf1, hb3, hf4, rchI]]⟩
      · have hi5 := (xI_wk hI hf4)
        refine W.eq (g2 := F0 m 24 ls [.ref (ad 5 i5)]) (by rw [hf4]; rfl) ?_
        refine lv_astore (lv' := [(4, .ref (ad 5 i5)), (3, .ref (ad 6 i2)), (0, .ref (ad 0 0)), (1, .int t), (2, .int a)]) hx hb dX4_reach_24 hl (by decide) rfl (fun ls hl => ?_)
        refine lv_aload hx hb dX4_reach_26 (lv_at hl 0 rfl) ?_
        refine lv_ifnull hx hb dX4_reach_28 ?_
        refine lv_aload_n hx hb dX4_reach_31 rfl (lv_at hl 2 rfl) ?_
        refine lv_iconst (v := 0) hx hb dX4_reach_32 (by decide) ?_
        refine lv_iload_n hx hb dX4_reach_33 rfl (lv_at hl 4 rfl) ?_
        refine fw_callv (va_runV (As := [.int 0, .int a]) (rest := []) ⟨hx, hb, hml, hown, hts⟩ (c_X4_tell l D kk ad n I O hj hI 0 a _) (cwV 2 hts gX4_reach_X4_tell rfl rfl rfl (by decide +kernel) ⟨Nat.le_of_ble_eq_true rfl, Nat.le_of_ble_eq_true rfl⟩) (fw_preV hK hP (ci := 4) rfl (x_at0 hj)) rfl rfl hl.1 rfl (lv_room (Nat.le_of_ble_eq_true rfl)) dX4_reach_34 ⟨Nat.le_of_ble_eq_true rfl, Nat.le_of_ble_eq_true rfl⟩) hD hS hA (fun w1 H locs hq hP hD hS => ?_)
        subst hq
        refine lv_aload hx hb dX4_reach_37 (lv_at hl 0 rfl) ?_
        exact fw_aret (r := (some (ad 5 i5))) hx hb hr hlocks hK hP hD hS dX4_reach_39 ⟨by simp [rch, pif_True, pif_False, hf1, hb3, hf4, Option.map], by rw [show rchI I O t a = tl I 0 a from by simp [rch, pif_True, pif_False, hf1, hb3, hf4, rchI]]⟩

set_option maxHeartbeats 4000000 in
set_option maxRecDepth 100000 in
theorem c_X4_answerUnreached (l : Launch) (D : va_G) (kk : Nat → ClassId) (ad : Nat → Nat → Nat) (n : Nat) (I : sI) (O : sO) (hj : sj (xV n) ad) (hI : xI n O) (t a : Int32) (hrc : rch O t a = none) : fw_Mi l yX4_answerUnreached wsX4_answerUnreached { frames := 2, cells := 0, slots := 0, locals := 44 } 0 0 D vwCl (xT kk) (xw kk ad n I O) [.ref (ad 0 0), .int t, .int a] (fun r w1 => ∃ J, (∀ f, sp_at I O t a f = (r, J, O)) ∧ w1 = xw kk ad n J O) := by
  refine fw_ofi (cc := cX4_answerUnreached) (maxL := 4) (ret := (some .int)) (by decide) rfl (Nat.le_of_ble_eq_true rfl) ?_
  intro p e s m args below meth c A ls hx hb hml hr hlocks hnm hts hown hK hP hD hA hS hl
  have hown : s.vm.findClass RX4 = some m.cls := hown
  have hl : lv_has ls 4 [(0, .ref (ad 0 0)), (1, .int t), (2, .int a)] := hl
  refine lv_aload_n hx hb dX4_answerUnreached_0 rfl (lv_at hl 0 rfl) ?_
  refine lv_iload_n hx hb dX4_answerUnreached_1 rfl (lv_at hl 1 rfl) ?_
  refine fw_callq (va_runV (As := [.int t]) (rest := []) ⟨hx, hb, hml, hown, hts⟩ (c_X4_findTrack l D kk ad n I O hj hI t _) (cwV 1 hts gX4_answerUnreached_X4_findTrack rfl rfl rfl (by decide +kernel) ⟨Nat.le_of_ble_eq_true rfl, Nat.le_of_ble_eq_true rfl⟩) (fw_preV hK hP (ci := 4) rfl (x_at0 hj)) rfl rfl hl.1 rfl (lv_room (Nat.le_of_ble_eq_true rfl)) dX4_answerUnreached_2 ⟨Nat.le_of_ble_eq_true rfl, Nat.le_of_ble_eq_true rfl⟩) hD hS hA (fun r w1 H locs hq hP hD hS => ?_)
  obtain ⟨rfl, rfl⟩ := hq
  rcases oc (fnd 6 t) with hf1 | ⟨i2, hf1⟩
  · refine W.eq (g2 := F0 m 5 ls [.null]) (by rw [hf1]; rfl) ?_
    refine lv_astore_nN (lv' := [(3, .null), (0, .ref (ad 0 0)), (1, .int t), (2, .int a)]) hx hb dX4_answerUnreached_5 rfl hl (by decide) rfl (fun ls hl => ?_)
    refine lv_aload_nN hx hb dX4_answerUnreached_6 rfl (lv_at hl 0 rfl) ?_
    refine lv_ifnonnullN hx hb dX4_answerUnreached_7 ?_
    refine lv_bipush (v := (-101)) hx hb dX4_answerUnreached_10 (by decide) ?_
    exact fw_iret hx hb hr hlocks hK hP hD hS dX4_answerUnreached_12 ⟨_, fun f => by simp [sp_at, pif_True, pif_False, hf1], rfl⟩
  · have hi2 := (fnd_lt hf1).1
    refine W.eq (g2 := F0 m 5 ls [.ref (ad 6 i2)]) (by rw [hf1]; rfl) ?_
    refine lv_astore_n (lv' := [(3, .ref (ad 6 i2)), (0, .ref (ad 0 0)), (1, .int t), (2, .int a)]) hx hb dX4_answerUnreached_5 rfl hl (by decide) rfl (fun ls hl => ?_)
    refine lv_aload_n hx hb dX4_answerUnreached_6 rfl (lv_at hl 0 rfl) ?_
    refine lv_ifnonnull (tgt := 13) hx hb dX4_answerUnreached_7 (by decide) ?_
    refine lv_iload_n hx hb dX4_answerUnreached_13 rfl (lv_at hl 3 rfl) ?_
    refine fw_calli (va_runS (As := [.int a]) (rest := []) ⟨hx, hb, hml, hown, hts⟩ (c_X4_isOutsideTrack l D kk _ a _) (va_cwS 1 hts gX4_answerUnreached_X4_isOutsideTrack rfl rfl rfl (by decide +kernel) ⟨Nat.le_of_ble_eq_true rfl, Nat.le_of_ble_eq_true rfl⟩) (fw_preS hK hP) rfl rfl hl.1 rfl (lv_room (Nat.le_of_ble_eq_true rfl)) dX4_answerUnreached_14 ⟨Nat.le_of_ble_eq_true rfl, Nat.le_of_ble_eq_true rfl⟩) hD hS hA (fun r w1 H locs hq hP hD hS => ?_)
    obtain ⟨rfl, rfl⟩ := hq
    by_cases hb3 : (a < 0 ∨ 40 < a)
    · rw [pif_t hb3]
      refine lv_if_eq (tgt := 25) hx hb dX4_answerUnreached_17 (by decide) (fun c9 => absurd c9 (by decide)) (fun _ => ?_)
      refine lv_bipush (v := (-102)) hx hb dX4_answerUnreached_20 (by decide) ?_
      refine lv_goto (tgt := 34) hx hb dX4_answerUnreached_22 (by decide) ?_
      exact fw_iret hx hb hr hlocks hK hP hD hS dX4_answerUnreached_34 ⟨_, fun f => by simp [sp_at, pif_True, pif_False, hf1, hb3], rfl⟩
    · rw [pif_f hb3]
      refine lv_if_eq (tgt := 25) hx hb dX4_answerUnreached_17 (by decide) (fun _ => ?_) (fun c9 => absurd c9 (by decide))
      refine lv_aload_n hx hb dX4_answerUnreached_25 rfl (lv_at hl 1 rfl) ?_
      refine lv_iconst (v := 1) hx hb dX4_answerUnreached_26 (by decide) ?_
      refine lv_aload_n hx hb dX4_answerUnreached_27 rfl (lv_at hl 0 rfl) ?_
      refine fw_calli (va_runV (As := []) (rest := [.int 1, .ref (ad 0 0)]) ⟨hx, hb, hml, hown, hts⟩ (c_X2_length l D kk ad n I O hj hI hi2 _) (cwV 0 hts gX4_answerUnreached_X2_length rfl rfl rfl (by decide +kernel) ⟨Nat.le_of_ble_eq_true rfl, Nat.le_of_ble_eq_true rfl⟩) (fw_preV hK hP (ci := 2) rfl (x_at6 hj hi2)) rfl rfl hl.1 rfl (lv_room (Nat.le_of_ble_eq_true rfl)) dX4_answerUnreached_28 ⟨Nat.le_of_ble_eq_true rfl, Nat.le_of_ble_eq_true rfl⟩) hD hS hA (fun r w1 H locs hq hP hD hS => ?_)
      obtain ⟨rfl, rfl⟩ := hq
      refine fw_calli (va_runV (As := [.int 1, .int (nI (clen (O 0) (O 1 i2)))]) (rest := []) ⟨hx, hb, hml, hown, hts⟩ (c_X4_fail l D kk ad n I O hj hI 1 (nI (clen (O 0) (O 1 i2))) _) (cwV 2 hts gX4_answerUnreached_X4_fail rfl rfl rfl (by decide +kernel) ⟨Nat.le_of_ble_eq_true rfl, Nat.le_of_ble_eq_true rfl⟩) (fw_preV hK hP (ci := 4) rfl (x_at0 hj)) rfl rfl hl.1 rfl (lv_room (Nat.le_of_ble_eq_true rfl)) dX4_answerUnreached_31 ⟨Nat.le_of_ble_eq_true rfl, Nat.le_of_ble_eq_true rfl⟩) hD hS hA (fun r w1 H locs hq hP hD hS => ?_)
      obtain ⟨rfl, rfl⟩ := hq
      exact fw_iret hx hb hr hlocks hK hP hD hS dX4_answerUnreached_34 ⟨_, fun f => by have h9 := hrc; simp [rch, pif_True, pif_False, hf1, hb3] at h9; simp [sp_at, pif_True, pif_False, hf1, hb3, h9], rfl⟩
