/-! ===== rings, rows filled, pairs ===== -/
def nxtN (x : Nat) : Nat := if x + 1 < 5 then x + 1 else 0
def prvN (x : Nat) : Nat := if 0 < x then x - 1 else 4
def incN (x : Nat) : Nat := if x < 5 then x + 1 else x
theorem prvN_lt {x : Nat} (h : x < 5) : prvN x < 5 := by simp only [prvN]; split <;> omega
def fil (f : Nat → Int32) (v : Int32) (k : Nat) : Nat → Int32 := fun j => if j < k then v else f j
theorem fil_0 (f : Nat → Int32) (v : Int32) : fil f v 0 = f := by funext j; simp [fil]
theorem fil_s (f : Nat → Int32) (v : Int32) (k : Nat) : upd (fil f v k) k v = fil f v (k + 1) := by
  funext j
  simp only [upd, fil]
  by_cases h : j = k
  · subst h; rw [if_pos rfl, if_pos (by omega)]
  · rw [if_neg h]
    by_cases g : j < k
    · rw [if_pos g, if_pos (by omega)]
    · rw [if_neg g, if_neg (by omega)]
/-- a specimen's pair of dies -/
def pr (F : Nat → Nat) (k : Nat) : Nat := 10 * F (4 * k + 0) + F (4 * k + 1)
theorem pr_lt {F : Nat → Nat} (h : ∀ j, F j < 10) (k : Nat) : pr F k < 100 := by
  have h1 := h (4 * k + 0)
  have h2 := h (4 * k + 1)
  unfold pr
  omega
def hasP (F : Nat → Nat) : Nat → Nat → Bool
  | 0, _ => false
  | k + 1, j => hasP F k j || decide (pr F k = j)
theorem hasP_iff (F : Nat → Nat) (k j : Nat) : hasP F k j = true ↔ ∃ i, i < k ∧ pr F i = j := by
  induction k with
  | zero => simp [hasP]
  | succ k ih =>
    simp only [hasP, Bool.or_eq_true, ih, decide_eq_true_eq]
    constructor
    · rintro (⟨i, h1, h2⟩ | h)
      · exact ⟨i, by omega, h2⟩
      · exact ⟨k, by omega, h⟩
    · rintro ⟨i, h1, h2⟩
      by_cases e : i = k
      · subst e; exact Or.inr h2
      · exact Or.inl ⟨i, by omega, h2⟩
def mkb (b : Nat → Bool) : Nat → Int32 := fun j => if b j = true then nI 0 else (-1)
theorem mkb_0 (F : Nat → Nat) : (fun _ => (-1) : Nat → Int32) = mkb (hasP F 0) := by funext j; simp [mkb, hasP]
theorem mkb_s (F : Nat → Nat) (k : Nat) : upd (mkb (hasP F k)) (pr F k) (nI 0) = mkb (hasP F (k + 1)) := by
  funext j
  simp only [upd, mkb, hasP]
  by_cases h : j = pr F k
  · subst h; simp
  · rw [if_neg h]
    simp [Ne.symm h]
/-- how many of the first k are such -/
def rk (b : Nat → Bool) : Nat → Nat
  | 0 => 0
  | k + 1 => rk b k + (if b k = true then 1 else 0)
theorem rk_le (b : Nat → Bool) (k : Nat) : rk b k ≤ k := by
  induction k with
  | zero => simp [rk]
  | succ k ih => simp only [rk]; split <;> omega
theorem rk_mono (b : Nat → Bool) {i j : Nat} (h : i ≤ j) : rk b i ≤ rk b j := by
  induction j with
  | zero => have : i = 0 := by omega
            subst this; exact Nat.le_refl _
  | succ j ih =>
    by_cases e : i = j + 1
    · subst e; exact Nat.le_refl _
    · have := ih (by omega)
      simp only [rk]
      split <;> omega
theorem rk_lt (b : Nat → Bool) {i j : Nat} (h : i < j) (hb : b i = true) : rk b i < rk b j := by
  have h1 : rk b (i + 1) ≤ rk b j := rk_mono b h
  simp only [rk, hb, if_pos] at h1
  omega
theorem rk_inj (b : Nat → Bool) {i j : Nat} (hi : b i = true) (hj : b j = true) (h : rk b i = rk b j) : i = j := by
  rcases Nat.lt_trichotomy i j with g | g | g
  · have := rk_lt b g hi; omega
  · exact g
  · have := rk_lt b g hj; omega
theorem rk_surj (b : Nat → Bool) {n c : Nat} (h : c < rk b n) : ∃ j, j < n ∧ b j = true ∧ rk b j = c := by
  induction n with
  | zero => simp [rk] at h
  | succ n ih =>
    simp only [rk] at h
    by_cases hb : b n = true
    · rw [if_pos hb] at h
      by_cases e : c = rk b n
      · exact ⟨n, by omega, hb, e.symm⟩
      · obtain ⟨j, h1, h2, h3⟩ := ih (by omega)
        exact ⟨j, by omega, h2, h3⟩
    · rw [if_neg hb] at h
      obtain ⟨j, h1, h2, h3⟩ := ih (by omega)
      exact ⟨j, by omega, h2, h3⟩
theorem rk_stop (b : Nat → Bool) {k n : Nat} (hk : k ≤ n) (h : rk b n ≤ rk b k) : ∀ j, k ≤ j → j < n → b j = false := by
  intro j h1 h2
  cases hb : b j with
  | false => rfl
  | true =>
    have g1 := rk_mono b h1
    have g2 := rk_lt b h2 hb
    omega
theorem rk_ext {b c : Nat → Bool} {n : Nat} (h : ∀ j, j < n → b j = c j) : rk b n = rk c n := by
  induction n with
  | zero => rfl
  | succ n ih => simp only [rk]; rw [ih (fun j hj => h j (by omega)), h n (by omega)]
/-- one more among the pairs: at most one more counted -/
theorem rk_or (b : Nat → Bool) (x n : Nat) : rk (fun j => b j || decide (x = j)) n ≤ rk b n + 1 := by
  induction n with
  | zero => simp [rk]
  | succ n ih =>
    simp only [rk]
    by_cases e : x = n
    · subst e
      have e2 : rk (fun j => b j || decide (x = j)) x = rk b x := rk_ext (fun j hj => by simp [show ¬ x = j by omega])
      rw [e2]
      simp only [decide_true, Bool.or_true, if_true]
      split <;> omega
    · simp only [e, decide_false, Bool.or_false]
      split <;> omega
theorem rk_hasP (F : Nat → Nat) (k n : Nat) : rk (hasP F k) n ≤ k := by
  induction k with
  | zero =>
    have : ∀ n, rk (hasP F 0) n = 0 := by
      intro n
      induction n with
      | zero => rfl
      | succ n ih => simp only [rk, ih]; rfl
    rw [this]; exact Nat.le_refl _
  | succ k ih =>
    have h : hasP F (k + 1) = fun j => hasP F k j || decide (pr F k = j) := by funext j; rfl
    rw [h]
    have := rk_or (hasP F k) (pr F k) n
    omega
/-- the pairs' numbers as far as k -/
def numb (b : Nat → Bool) (k : Nat) : Nat → Int32 := fun j => if b j = true then (if j < k then nI (rk b j) else nI 0) else (-1)
theorem numb_0 (b : Nat → Bool) : mkb b = numb b 0 := by funext j; simp [mkb, numb]
theorem m1_ne {k : Nat} (h : k < 2 ^ 31) : ¬ nI k = -1 := by
  intro q
  have h1 := nI_toInt h
  rw [q] at h1
  have h2 : (-1 : Int32).toInt = -1 := by decide
  omega
theorem numb_t {b : Nat → Bool} {k : Nat} (h : ¬ numb b k k = -1) : b k = true := by
  cases hb : b k with
  | true => rfl
  | false => exact absurd (by simp [numb, hb]) h
theorem numb_f {b : Nat → Bool} {k : Nat} (h : numb b k k = -1) : b k = false := by
  cases hb : b k with
  | false => rfl
  | true =>
    simp only [numb, hb, if_pos, Nat.lt_irrefl, if_false] at h
    exact absurd h (m1_ne (by decide))
theorem numb_st {b : Nat → Bool} {k : Nat} (h : b k = true) : upd (numb b k) k (nI (rk b k)) = numb b (k + 1) := by
  funext j
  simp only [upd, numb]
  by_cases e : j = k
  · subst e; rw [if_pos rfl, if_pos h, if_pos (by omega)]
  · rw [if_neg e]
    have q : (j < k) ↔ (j < k + 1) := by omega
    simp only [q]
theorem numb_sf {b : Nat → Bool} {k : Nat} (h : b k = false) : numb b k = numb b (k + 1) := by
  funext j
  simp only [numb]
  by_cases e : j = k
  · subst e; simp [h]
  · have q : (j < k) ↔ (j < k + 1) := by omega
    simp only [q]
theorem numb_stop {b : Nat → Bool} {k n : Nat} (hk : k ≤ n) (h : ∀ j, k ≤ j → j < n → b j = false) : numb b k = numb b n := by
  funext j
  simp only [numb]
  cases hb : b j with
  | false => rfl
  | true =>
    rw [if_pos rfl, if_pos rfl]
    by_cases g : j < k
    · rw [if_pos g, if_pos (by omega)]
    · rw [if_neg g, if_neg (fun q => by rw [h j (by omega) q] at hb; cases hb)]
/-- the least and the greatest wear of side sd among the first k specimens of pair j -/
def lw (F : Nat → Nat) (sd j : Nat) : Nat → Nat
  | 0 => 5
  | k + 1 => if pr F k = j then min (lw F sd j k) (F (4 * k + 2 + sd)) else lw F sd j k
def gw (F : Nat → Nat) (sd j : Nat) : Nat → Nat
  | 0 => 0
  | k + 1 => if pr F k = j then max (gw F sd j k) (F (4 * k + 2 + sd)) else gw F sd j k
/-- rows of numbers below ten -/
def Bd (f : Nat → Nat) : Prop := ∀ x, f x < 10
theorem Bd.upd {f : Nat → Nat} (h : Bd f) {k v : Nat} (hv : v < 10) : Bd (updN f k v) := fun x => by
  simp only [updN]
  split
  · exact hv
  · exact h x
def Bd6 (a b c d e f : Nat → Nat) : Prop := Bd a ∧ Bd b ∧ Bd c ∧ Bd d ∧ Bd e ∧ Bd f
/-- rows that hold the pairs' dies and their wear's first values -/
def CplD (b : Nat → Bool) (k : Nat) (D0 D1 L0 L1 G0 G1 : Nat → Nat) : Prop := ∀ j, j < k → b j = true → D0 (rk b j) = j / 10 ∧ D1 (rk b j) = j % 10 ∧ L0 (rk b j) = 5 ∧ L1 (rk b j) = 5 ∧ G0 (rk b j) = 0 ∧ G1 (rk b j) = 0
theorem CplD.push {b : Nat → Bool} {k : Nat} {D0 D1 L0 L1 G0 G1 : Nat → Nat} (h : CplD b k D0 D1 L0 L1 G0 G1) (hb : b k = true) : CplD b (k + 1) (updN D0 (rk b k) (k / 10)) (updN D1 (rk b k) (k % 10)) (updN L0 (rk b k) 5) (updN L1 (rk b k) 5) (updN G0 (rk b k) 0) (updN G1 (rk b k) 0) := by
  intro j hj hbj
  by_cases e : j = k
  · subst e
    simp only [updN_eq, and_self]
  · have hlt : j < k := by omega
    have hne : rk b j ≠ rk b k := fun q => e (rk_inj b hbj hb q)
    simp only [updN_ne _ _ hne]
    exact h j hlt hbj
theorem CplD.skip {b : Nat → Bool} {k : Nat} {D0 D1 L0 L1 G0 G1 : Nat → Nat} (h : CplD b k D0 D1 L0 L1 G0 G1) (hb : b k = false) : CplD b (k + 1) D0 D1 L0 L1 G0 G1 := by
  intro j hj hbj
  by_cases e : j = k
  · subst e; rw [hb] at hbj; cases hbj
  · exact h j (by omega) hbj
theorem CplD.stop {b : Nat → Bool} {k n : Nat} {D0 D1 L0 L1 G0 G1 : Nat → Nat} (h : CplD b k D0 D1 L0 L1 G0 G1) (hs : ∀ j, k ≤ j → j < n → b j = false) : CplD b n D0 D1 L0 L1 G0 G1 := by
  intro j hj hbj
  by_cases e : j < k
  · exact h j e hbj
  · rw [hs j (by omega) hj] at hbj; cases hbj
/-- the couples as the document has them -/
def Cpl (F : Nat → Nat) (n k : Nat) (D0 D1 L0 L1 G0 G1 : Nat → Nat) : Prop := ∀ j, j < 100 → hasP F n j = true → D0 (rk (hasP F n) j) = j / 10 ∧ D1 (rk (hasP F n) j) = j % 10 ∧ L0 (rk (hasP F n) j) = lw F 0 j k ∧ L1 (rk (hasP F n) j) = lw F 1 j k ∧ G0 (rk (hasP F n) j) = gw F 0 j k ∧ G1 (rk (hasP F n) j) = gw F 1 j k
theorem Cpl.step {F : Nat → Nat} {n k : Nat} {D0 D1 L0 L1 G0 G1 : Nat → Nat} (h : Cpl F n k D0 D1 L0 L1 G0 G1) (hF : ∀ j, F j < 10) (hk : k < n) : Cpl F n (k + 1) D0 D1 (updN L0 (rk (hasP F n) (pr F k)) (min (L0 (rk (hasP F n) (pr F k))) (F (4 * k + 2 + 0)))) (updN L1 (rk (hasP F n) (pr F k)) (min (L1 (rk (hasP F n) (pr F k))) (F (4 * k + 2 + 1)))) (updN G0 (rk (hasP F n) (pr F k)) (max (G0 (rk (hasP F n) (pr F k))) (F (4 * k + 2 + 0)))) (updN G1 (rk (hasP F n) (pr F k)) (max (G1 (rk (hasP F n) (pr F k))) (F (4 * k + 2 + 1)))) := by
  intro j hj hbj
  obtain ⟨h1, h2, h3, h4, h5, h6⟩ := h j hj hbj
  by_cases e : pr F k = j
  · subst e
    simp only [updN_eq, lw, gw, if_pos]
    rw [h3, h4, h5, h6]
    exact ⟨h1, h2, rfl, rfl, rfl, rfl⟩
  · have hb0 : hasP F n (pr F k) = true := (hasP_iff F n _).mpr ⟨k, hk, rfl⟩
    have hne : rk (hasP F n) j ≠ rk (hasP F n) (pr F k) := fun q => e (rk_inj _ hbj hb0 q).symm
    simp only [updN_ne _ _ hne, lw, gw, if_neg e]
    exact ⟨h1, h2, h3, h4, h5, h6⟩
def erb (D L G : Nat → Nat) (a b : Nat) : Bool := decide (D a = D b ∧ G a ≤ L b ∧ L a < G b)
def erl (D0 D1 L0 L1 G0 G1 : Nat → Nat) (a b : Nat) : Bool := erb D0 L0 G0 a b || erb D1 L1 G1 a b

def rmX2_init : Room := { frames := 1, cells := 2, slots := 485, locals := 24 }
set_option maxHeartbeats 4000000 in
set_option maxRecDepth 100000 in
theorem c_X2_init (l : Launch) (E : ZE) (h0 : Nat)  : ZMv l yX2_init cX2_init 1 rmX2_init E [.ref h0] [(h0, ob 2 [.null, .null, .int (nI 0), .int (nI 0)])] (S := Nat × Nat) (fun u => True) (fun u => [(h0, ob 2 [.ref u.1, .ref u.2, .int (nI 0), .int (nI 0)]), (u.1, ia E 480 (nA (fun _ => 0))), (u.2, ia E 5 (nA (fun _ => 0)))]) := by
  refine z_mv (by decide) (Nat.le_of_ble_eq_true rfl) ?_
  intro p e s m args below meth c A Q ls cx hin hw hl ret
  obtain ⟨hx, hb, hml, hown, hts, hK, hN, hA, hlk⟩ := id cx
  have hl : lv_has ls 1 [(0, .ref h0)] := hl
  refine lv_aload_n hx hb dX2_init_0 rfl (lv_at hl 0 rfl) ?_
  refine z_obj cx hl wd_40 (Nat.le_of_ble_eq_true rfl) (Nat.le_of_ble_eq_true rfl) dX2_init_1 ?_
  refine lv_aload_n hx hb dX2_init_4 rfl (lv_at hl 0 rfl) ?_
  refine lv_sipush (v := nI 480) hx hb dX2_init_5 (by decide) ?_
  refine z_newa (atype := .int) (a0 := (480, .inl (nA (fun _ => 0)))) (k := 0) cx hw 480 rfl (by decide) rfl rfl (fun _ h => by cases h) (fun _ => rfl) (by decide) wd_35 (Nat.le_of_ble_eq_true rfl) (Nat.le_of_ble_eq_true rfl) dX2_init_8 (fun q8 H hw => ?_)
  refine W.widen (k := 1) (n := 480) (Nat.le_of_ble_eq_true rfl) (Nat.le_of_ble_eq_true rfl) ?_
  have hw : ZW E A s [(h0, ob 2 [.null, .null, .int (nI 0), .int (nI 0)]), (q8, ia E 480 (nA (fun _ => 0)))] H [] := hw
  refine z_putF cx hw 0 0 rfl rfl inlX2 tyX2_ok nmX2 (by decide) wd_41 rfl hin rfl rfl rfl (Nat.le_of_ble_eq_true rfl) dX2_init_10 (fun H locs hw => ?_)
  have hw : ZW E A s [(h0, ob 2 [.ref q8, .null, .int (nI 0), .int (nI 0)]), (q8, ia E 480 (nA (fun _ => 0)))] H locs := hw
  refine lv_aload_n hx hb dX2_init_13 rfl (lv_at hl 0 rfl) ?_
  refine lv_iconst (v := nI 5) hx hb dX2_init_14 (by decide) ?_
  refine z_newa (atype := .int) (a0 := (5, .inl (nA (fun _ => 0)))) (k := 0) cx hw 5 rfl (by decide) rfl rfl (fun _ h => by cases h) (fun _ => rfl) (by decide) wd_35 (Nat.le_of_ble_eq_true rfl) (Nat.le_of_ble_eq_true rfl) dX2_init_15 (fun q15 H hw => ?_)
  refine W.widen (k := 2) (n := 485) (Nat.le_of_ble_eq_true rfl) (Nat.le_of_ble_eq_true rfl) ?_
  have hw : ZW E A s [(h0, ob 2 [.ref q8, .null, .int (nI 0), .int (nI 0)]), (q8, ia E 480 (nA (fun _ => 0))), (q15, ia E 5 (nA (fun _ => 0)))] H locs := hw
  refine z_putF cx hw 0 1 rfl rfl inlX2 tyX2_ok nmX2 (by decide) wd_42 rfl hin rfl rfl rfl (Nat.le_of_ble_eq_true rfl) dX2_init_17 (fun H locs hw => ?_)
  have hw : ZW E A s [(h0, ob 2 [.ref q8, .ref q15, .int (nI 0), .int (nI 0)]), (q8, ia E 480 (nA (fun _ => 0))), (q15, ia E 5 (nA (fun _ => 0)))] H locs := hw
  refine lv_aload_n hx hb dX2_init_20 rfl (lv_at hl 0 rfl) ?_
  refine lv_iconst (v := nI 0) hx hb dX2_init_21 (by decide) ?_
  refine z_put cx hw 0 2 rfl rfl inlX2 tyX2_ok nmX2 (by decide) wd_43 rfl rfl rfl (Nat.le_of_ble_eq_true rfl) dX2_init_22 (fun H locs hw => ?_)
  have hw : ZW E A s [(h0, ob 2 [.ref q8, .ref q15, .int (nI 0), .int (nI 0)]), (q8, ia E 480 (nA (fun _ => 0))), (q15, ia E 5 (nA (fun _ => 0)))] H locs := hw
  refine lv_aload_n hx hb dX2_init_25 rfl (lv_at hl 0 rfl) ?_
  refine lv_iconst (v := nI 0) hx hb dX2_init_26 (by decide) ?_
  refine z_put cx hw 0 3 rfl rfl inlX2 tyX2_ok nmX2 (by decide) wd_44 rfl rfl rfl (Nat.le_of_ble_eq_true rfl) dX2_init_27 (fun H locs hw => ?_)
  have hw : ZW E A s [(h0, ob 2 [.ref q8, .ref q15, .int (nI 0), .int (nI 0)]), (q8, ia E 480 (nA (fun _ => 0))), (q15, ia E 5 (nA (fun _ => 0)))] H locs := hw
  exact ret (q8, q15) 30 ls H locs dX2_init_30 (trivial) (hw)

def rmX2_save : Room := { frames := 1, cells := 0, slots := 0, locals := 60 }
set_option maxHeartbeats 4000000 in
set_option maxRecDepth 100000 in
theorem c_X2_save (l : Launch) (E : ZE) (h0 qc qn : Nat) (G C : Nat → Nat) (sv nx : Nat) (hS q : Nat) (F : Nat → Nat) (n : Nat) (hnx : nx < 5) (hsv : sv ≤ 5) : ZMv l yX2_save cX2_save 2 rmX2_save E [.ref h0, .ref hS] [(h0, ob 2 [.ref qc, .ref qn, .int (nI sv), .int (nI nx)]), (qc, ia E 480 (nA G)), (qn, ia E 5 (nA C)), (hS, ob 4 [.ref q, .int (nI n)]), (q, ia E 96 (nA F))] (S := Unit) (fun _ => True) (fun _ => [(h0, ob 2 [.ref qc, .ref qn, .int (nI (incN sv)), .int (nI (nxtN nx))]), (qc, ia E 480 (nA (cpyN F G 0 (96 * nx) 96))), (qn, ia E 5 (nA (updN C nx n))), (hS, ob 4 [.ref q, .int (nI n)]), (q, ia E 96 (nA F))]) := by
  refine z_mv (by decide) (Nat.le_of_ble_eq_true rfl) ?_
  intro p e s m args below meth c A Q ls cx hin hw hl ret
  obtain ⟨hx, hb, hml, hown, hts, hK, hN, hA, hlk⟩ := id cx
  have hl : lv_has ls 2 [(0, .ref h0), (1, .ref hS)] := hl
  refine lv_aload_n hx hb dX2_save_0 rfl (lv_at hl 1 rfl) ?_
  refine z_getN cx hw 3 0 rfl rfl inlX4 (by decide) (nf_X2_27 hN) rfl dX2_save_1 ?_
  refine lv_iconst (v := nI 0) hx hb dX2_save_4 (by decide) ?_
  refine lv_aload_n hx hb dX2_save_5 rfl (lv_at hl 0 rfl) ?_
  refine z_get cx hw 0 0 rfl rfl inlX2 (by decide) wd_41 rfl dX2_save_6 ?_
  refine lv_aload_n hx hb dX2_save_9 rfl (lv_at hl 0 rfl) ?_
  refine z_get cx hw 0 3 rfl rfl inlX2 (by decide) wd_44 rfl dX2_save_10 ?_
  refine lv_bipush (v := nI 96) hx hb dX2_save_13 (by decide) ?_
  refine z_imul hx hb (96 * nx) (by omega) dX2_save_15 ?_
  refine lv_bipush (v := nI 96) hx hb dX2_save_16 (by decide) ?_
  refine z_copy cx hw 4 1 rfl rfl 0 (96 * nx) 96 rfl rfl rfl (by omega) (by omega) (by decide) (by decide) hl wd_94 (Nat.le_of_ble_eq_true rfl) (Nat.le_of_ble_eq_true rfl) dX2_save_18 (fun H locs hw => ?_)
  have hw : ZW E A s [(h0, ob 2 [.ref qc, .ref qn, .int (nI sv), .int (nI nx)]), (qc, ia E 480 (nA (cpyN F G 0 (96 * nx) 96))), (qn, ia E 5 (nA C)), (hS, ob 4 [.ref q, .int (nI n)]), (q, ia E 96 (nA F))] H locs := hw
  refine lv_aload_n hx hb dX2_save_21 rfl (lv_at hl 0 rfl) ?_
  refine z_get cx hw 0 1 rfl rfl inlX2 (by decide) wd_42 rfl dX2_save_22 ?_
  refine lv_aload_n hx hb dX2_save_25 rfl (lv_at hl 0 rfl) ?_
  refine z_get cx hw 0 3 rfl rfl inlX2 (by decide) wd_44 rfl dX2_save_26 ?_
  refine lv_aload_n hx hb dX2_save_29 rfl (lv_at hl 1 rfl) ?_
  refine z_getN cx hw 3 1 rfl rfl inlX4 (by decide) (nf_X2_34 hN) rfl dX2_save_30 ?_
  refine z_astN cx hw 2 rfl (nx) rfl (by omega) (by decide) dX2_save_33 (fun H locs hw => ?_)
  have hw : ZW E A s [(h0, ob 2 [.ref qc, .ref qn, .int (nI sv), .int (nI nx)]), (qc, ia E 480 (nA (cpyN F G 0 (96 * nx) 96))), (qn, ia E 5 (nA (updN C nx n))), (hS, ob 4 [.ref q, .int (nI n)]), (q, ia E 96 (nA F))] H locs := hw
  refine lv_aload_n hx hb dX2_save_34 rfl (lv_at hl 0 rfl) ?_
  refine lv_aload_n hx hb dX2_save_35 rfl (lv_at hl 0 rfl) ?_
  refine z_get cx hw 0 3 rfl rfl inlX2 (by decide) wd_44 rfl dX2_save_36 ?_
  refine lv_iconst (v := nI 1) hx hb dX2_save_39 (by decide) ?_
  refine z_iadd hx hb (nx + 1) rfl dX2_save_40 ?_
  refine lv_iconst (v := nI 5) hx hb dX2_save_41 (by decide) ?_
  refine z_icmp_ge hx hb (by omega) (by decide) 54 dX2_save_42 (by decide) (fun c_42 => ?_) (fun c_42 => ?_)
  · refine lv_iconst (v := nI 0) hx hb dX2_save_54 (by decide) ?_
    refine z_put cx hw 0 3 rfl rfl inlX2 tyX2_ok nmX2 (by decide) wd_44 rfl rfl rfl (Nat.le_of_ble_eq_true rfl) dX2_save_55 (fun H locs hw => ?_)
    have hw : ZW E A s [(h0, ob 2 [.ref qc, .ref qn, .int (nI sv), .int (nI 0)]), (qc, ia E 480 (nA (cpyN F G 0 (96 * nx) 96))), (qn, ia E 5 (nA (updN C nx n))), (hS, ob 4 [.ref q, .int (nI n)]), (q, ia E 96 (nA F))] H locs := hw
    refine lv_aload_n hx hb dX2_save_58 rfl (lv_at hl 0 rfl) ?_
    refine z_get cx hw 0 2 rfl rfl inlX2 (by decide) wd_43 rfl dX2_save_59 ?_
    refine lv_iconst (v := nI 5) hx hb dX2_save_62 (by decide) ?_
    refine z_icmp_ge hx hb (by omega) (by decide) 76 dX2_save_63 (by decide) (fun c_63 => ?_) (fun c_63 => ?_)
    · have e_r76_0 : sv = (incN sv) := by (simp only [incN]; split <;> omega)
      have e_r76_1 : 0 = (nxtN nx) := by (simp only [nxtN]; split <;> omega)
      exact ret () 76 ls H locs dX2_save_76 (trivial) ((hw).cast (zc ((congrArg (fun z => ((h0, ob 2 [.ref qc, .ref qn, .int (nI z), .int (nI 0)]) : Nat × va_E)) e_r76_0).trans (congrArg (fun z => ((h0, ob 2 [.ref qc, .ref qn, .int (nI (incN sv)), .int (nI z)]) : Nat × va_E)) e_r76_1)) rfl))
    · refine lv_aload_n hx hb dX2_save_66 rfl (lv_at hl 0 rfl) ?_
      refine lv_dup hx hb dX2_save_67 rfl ?_
      refine z_get cx hw 0 2 rfl rfl inlX2 (by decide) wd_43 rfl dX2_save_68 ?_
      refine lv_iconst (v := nI 1) hx hb dX2_save_71 (by decide) ?_
      refine z_iadd hx hb (sv + 1) rfl dX2_save_72 ?_
      refine z_put cx hw 0 2 rfl rfl inlX2 tyX2_ok nmX2 (by decide) wd_43 rfl rfl rfl (Nat.le_of_ble_eq_true rfl) dX2_save_73 (fun H locs hw => ?_)
      have hw : ZW E A s [(h0, ob 2 [.ref qc, .ref qn, .int (nI (sv + 1)), .int (nI 0)]), (qc, ia E 480 (nA (cpyN F G 0 (96 * nx) 96))), (qn, ia E 5 (nA (updN C nx n))), (hS, ob 4 [.ref q, .int (nI n)]), (q, ia E 96 (nA F))] H locs := hw
      have e_r76_0 : (sv + 1) = (incN sv) := by (simp only [incN]; split <;> omega)
      have e_r76_1 : 0 = (nxtN nx) := by (simp only [nxtN]; split <;> omega)
      exact ret () 76 ls H locs dX2_save_76 (trivial) ((hw).cast (zc ((congrArg (fun z => ((h0, ob 2 [.ref qc, .ref qn, .int (nI z), .int (nI 0)]) : Nat × va_E)) e_r76_0).trans (congrArg (fun z => ((h0, ob 2 [.ref qc, .ref qn, .int (nI (incN sv)), .int (nI z)]) : Nat × va_E)) e_r76_1)) rfl))
  · refine lv_aload_n hx hb dX2_save_45 rfl (lv_at hl 0 rfl) ?_
    refine z_get cx hw 0 3 rfl rfl inlX2 (by decide) wd_44 rfl dX2_save_46 ?_
    refine lv_iconst (v := nI 1) hx hb dX2_save_49 (by decide) ?_
    refine z_iadd hx hb (nx + 1) rfl dX2_save_50 ?_
    refine lv_goto (tgt := 55) hx hb dX2_save_51 (by decide) ?_
    refine z_put cx hw 0 3 rfl rfl inlX2 tyX2_ok nmX2 (by decide) wd_44 rfl rfl rfl (Nat.le_of_ble_eq_true rfl) dX2_save_55 (fun H locs hw => ?_)
    have hw : ZW E A s [(h0, ob 2 [.ref qc, .ref qn, .int (nI sv), .int (nI (nx + 1))]), (qc, ia E 480 (nA (cpyN F G 0 (96 * nx) 96))), (qn, ia E 5 (nA (updN C nx n))), (hS, ob 4 [.ref q, .int (nI n)]), (q, ia E 96 (nA F))] H locs := hw
    refine lv_aload_n hx hb dX2_save_58 rfl (lv_at hl 0 rfl) ?_
    refine z_get cx hw 0 2 rfl rfl inlX2 (by decide) wd_43 rfl dX2_save_59 ?_
    refine lv_iconst (v := nI 5) hx hb dX2_save_62 (by decide) ?_
    refine z_icmp_ge hx hb (by omega) (by decide) 76 dX2_save_63 (by decide) (fun c_63 => ?_) (fun c_63 => ?_)
    · have e_r76_0 : sv = (incN sv) := by (simp only [incN]; split <;> omega)
      have e_r76_1 : (nx + 1) = (nxtN nx) := by (simp only [nxtN]; split <;> omega)
      exact ret () 76 ls H locs dX2_save_76 (trivial) ((hw).cast (zc ((congrArg (fun z => ((h0, ob 2 [.ref qc, .ref qn, .int (nI z), .int (nI (nx + 1))]) : Nat × va_E)) e_r76_0).trans (congrArg (fun z => ((h0, ob 2 [.ref qc, .ref qn, .int (nI (incN sv)), .int (nI z)]) : Nat × va_E)) e_r76_1)) rfl))
    · refine lv_aload_n hx hb dX2_save_66 rfl (lv_at hl 0 rfl) ?_
      refine lv_dup hx hb dX2_save_67 rfl ?_
      refine z_get cx hw 0 2 rfl rfl inlX2 (by decide) wd_43 rfl dX2_save_68 ?_
      refine lv_iconst (v := nI 1) hx hb dX2_save_71 (by decide) ?_
      refine z_iadd hx hb (sv + 1) rfl dX2_save_72 ?_
      refine z_put cx hw 0 2 rfl rfl inlX2 tyX2_ok nmX2 (by decide) wd_43 rfl rfl rfl (Nat.le_of_ble_eq_true rfl) dX2_save_73 (fun H locs hw => ?_)
      have hw : ZW E A s [(h0, ob 2 [.ref qc, .ref qn, .int (nI (sv + 1)), .int (nI (nx + 1))]), (qc, ia E 480 (nA (cpyN F G 0 (96 * nx) 96))), (qn, ia E 5 (nA (updN C nx n))), (hS, ob 4 [.ref q, .int (nI n)]), (q, ia E 96 (nA F))] H locs := hw
      have e_r76_0 : (sv + 1) = (incN sv) := by (simp only [incN]; split <;> omega)
      have e_r76_1 : (nx + 1) = (nxtN nx) := by (simp only [nxtN]; split <;> omega)
      exact ret () 76 ls H locs dX2_save_76 (trivial) ((hw).cast (zc ((congrArg (fun z => ((h0, ob 2 [.ref qc, .ref qn, .int (nI z), .int (nI (nx + 1))]) : Nat × va_E)) e_r76_0).trans (congrArg (fun z => ((h0, ob 2 [.ref qc, .ref qn, .int (nI (incN sv)), .int (nI z)]) : Nat × va_E)) e_r76_1)) rfl))

def rmX2_restore : Room := { frames := 1, cells := 0, slots := 0, locals := 60 }
set_option maxHeartbeats 4000000 in
set_option maxRecDepth 100000 in
theorem c_X2_restore (l : Launch) (E : ZE) (h0 qc qn : Nat) (G C : Nat → Nat) (sv nx : Nat) (hS q : Nat) (F : Nat → Nat) (n : Nat) (hnx : nx < 5) (hsv : 0 < sv) : ZMv l yX2_restore cX2_restore 2 rmX2_restore E [.ref h0, .ref hS] [(h0, ob 2 [.ref qc, .ref qn, .int (nI sv), .int (nI nx)]), (qc, ia E 480 (nA G)), (qn, ia E 5 (nA C)), (hS, ob 4 [.ref q, .int (nI n)]), (q, ia E 96 (nA F))] (S := Unit) (fun _ => True) (fun _ => [(h0, ob 2 [.ref qc, .ref qn, .int (nI (sv - 1)), .int (nI (prvN nx))]), (qc, ia E 480 (nA G)), (qn, ia E 5 (nA C)), (hS, ob 4 [.ref q, .int (nI (C (prvN nx)))]), (q, ia E 96 (nA (fun j => G (96 * prvN nx + j))))]) := by
  refine z_mv (by decide) (Nat.le_of_ble_eq_true rfl) ?_
  intro p e s m args below meth c A Q ls cx hin hw hl ret
  obtain ⟨hx, hb, hml, hown, hts, hK, hN, hA, hlk⟩ := id cx
  have hl : lv_has ls 2 [(0, .ref h0), (1, .ref hS)] := hl
  refine lv_aload_n hx hb dX2_restore_0 rfl (lv_at hl 0 rfl) ?_
  refine lv_aload_n hx hb dX2_restore_1 rfl (lv_at hl 0 rfl) ?_
  refine z_get cx hw 0 3 rfl rfl inlX2 (by decide) wd_44 rfl dX2_restore_2 ?_
  refine z_if_le hx hb (by omega) 17 dX2_restore_5 (by decide) (fun c_5 => ?_) (fun c_5 => ?_)
  · refine lv_iconst (v := nI 4) hx hb dX2_restore_17 (by decide) ?_
    refine z_put cx hw 0 3 rfl rfl inlX2 tyX2_ok nmX2 (by decide) wd_44 rfl rfl rfl (Nat.le_of_ble_eq_true rfl) dX2_restore_18 (fun H locs hw => ?_)
    have hw : ZW E A s [(h0, ob 2 [.ref qc, .ref qn, .int (nI sv), .int (nI 4)]), (qc, ia E 480 (nA G)), (qn, ia E 5 (nA C)), (hS, ob 4 [.ref q, .int (nI n)]), (q, ia E 96 (nA F))] H locs := hw
    refine lv_aload_n hx hb dX2_restore_21 rfl (lv_at hl 0 rfl) ?_
    refine z_get cx hw 0 0 rfl rfl inlX2 (by decide) wd_41 rfl dX2_restore_22 ?_
    refine lv_aload_n hx hb dX2_restore_25 rfl (lv_at hl 0 rfl) ?_
    refine z_get cx hw 0 3 rfl rfl inlX2 (by decide) wd_44 rfl dX2_restore_26 ?_
    refine lv_bipush (v := nI 96) hx hb dX2_restore_29 (by decide) ?_
    refine z_imul hx hb (384) (by omega) dX2_restore_31 ?_
    refine lv_aload_n hx hb dX2_restore_32 rfl (lv_at hl 1 rfl) ?_
    refine z_getN cx hw 3 0 rfl rfl inlX4 (by decide) (nf_X2_27 hN) rfl dX2_restore_33 ?_
    refine lv_iconst (v := nI 0) hx hb dX2_restore_36 (by decide) ?_
    refine lv_bipush (v := nI 96) hx hb dX2_restore_37 (by decide) ?_
    refine z_copy cx hw 1 4 rfl rfl 384 0 96 rfl rfl rfl (by omega) (by omega) (by decide) (by decide) hl wd_94 (Nat.le_of_ble_eq_true rfl) (Nat.le_of_ble_eq_true rfl) dX2_restore_39 (fun H locs hw => ?_)
    have hw : ZW E A s [(h0, ob 2 [.ref qc, .ref qn, .int (nI sv), .int (nI 4)]), (qc, ia E 480 (nA G)), (qn, ia E 5 (nA C)), (hS, ob 4 [.ref q, .int (nI n)]), (q, ia E 96 (nA (cpyN G F 384 0 96)))] H locs := hw
    refine lv_aload_n hx hb dX2_restore_42 rfl (lv_at hl 1 rfl) ?_
    refine lv_aload_n hx hb dX2_restore_43 rfl (lv_at hl 0 rfl) ?_
    refine z_get cx hw 0 1 rfl rfl inlX2 (by decide) wd_42 rfl dX2_restore_44 ?_
    refine lv_aload_n hx hb dX2_restore_47 rfl (lv_at hl 0 rfl) ?_
    refine z_get cx hw 0 3 rfl rfl inlX2 (by decide) wd_44 rfl dX2_restore_48 ?_
    refine z_aldN cx hw 2 rfl (4) rfl (by omega) (by decide) dX2_restore_51 ?_
    refine z_putN cx hw 3 1 rfl rfl inlX4 tyX4_ok nmX4 (by decide) (nf_X2_34 hN) rfl rfl rfl (Nat.le_of_ble_eq_true rfl) dX2_restore_52 (fun H locs hw => ?_)
    have hw : ZW E A s [(h0, ob 2 [.ref qc, .ref qn, .int (nI sv), .int (nI 4)]), (qc, ia E 480 (nA G)), (qn, ia E 5 (nA C)), (hS, ob 4 [.ref q, .int (nI (C 4))]), (q, ia E 96 (nA (cpyN G F 384 0 96)))] H locs := hw
    refine lv_aload_n hx hb dX2_restore_55 rfl (lv_at hl 0 rfl) ?_
    refine lv_dup hx hb dX2_restore_56 rfl ?_
    refine z_get cx hw 0 2 rfl rfl inlX2 (by decide) wd_43 rfl dX2_restore_57 ?_
    refine lv_iconst (v := nI 1) hx hb dX2_restore_60 (by decide) ?_
    refine z_isub hx hb (sv - 1) (by omega) rfl dX2_restore_61 ?_
    refine z_put cx hw 0 2 rfl rfl inlX2 tyX2_ok nmX2 (by decide) wd_43 rfl rfl rfl (Nat.le_of_ble_eq_true rfl) dX2_restore_62 (fun H locs hw => ?_)
    have hw : ZW E A s [(h0, ob 2 [.ref qc, .ref qn, .int (nI (sv - 1)), .int (nI 4)]), (qc, ia E 480 (nA G)), (qn, ia E 5 (nA C)), (hS, ob 4 [.ref q, .int (nI (C 4))]), (q, ia E 96 (nA (cpyN G F 384 0 96)))] H locs := hw
    have e_ : 4 = prvN nx := by (simp only [prvN]; split <;> omega)
    have hw := hw.ext (g := nA (fun j => G (96 * prvN nx + j))) 4 rfl (fun j hj => by simp only [nA, cpyN]; rw [if_pos (by omega), ← e_]; rfl)
    have hw : ZW E A s [(h0, ob 2 [.ref qc, .ref qn, .int (nI (sv - 1)), .int (nI 4)]), (qc, ia E 480 (nA G)), (qn, ia E 5 (nA C)), (hS, ob 4 [.ref q, .int (nI (C 4))]), (q, ia E 96 (nA (fun j => G (96 * prvN nx + j))))] H locs := hw
    have e_r65_0 : 4 = (prvN nx) := by exact e_
    have e_r65_1 : (C 4) = (C (prvN nx)) := by rw [e_]
    exact ret () 65 ls H locs dX2_restore_65 (trivial) ((hw).cast (zc (congrArg (fun z => ((h0, ob 2 [.ref qc, .ref qn, .int (nI (sv - 1)), .int (nI z)]) : Nat × va_E)) e_r65_0) (zc rfl (zc rfl (zc (congrArg (fun z => ((hS, ob 4 [.ref q, .int (nI z)]) : Nat × va_E)) e_r65_1) rfl)))))
  · refine lv_aload_n hx hb dX2_restore_8 rfl (lv_at hl 0 rfl) ?_
    refine z_get cx hw 0 3 rfl rfl inlX2 (by decide) wd_44 rfl dX2_restore_9 ?_
    refine lv_iconst (v := nI 1) hx hb dX2_restore_12 (by decide) ?_
    refine z_isub hx hb (nx - 1) (by omega) rfl dX2_restore_13 ?_
    refine lv_goto (tgt := 18) hx hb dX2_restore_14 (by decide) ?_
    refine z_put cx hw 0 3 rfl rfl inlX2 tyX2_ok nmX2 (by decide) wd_44 rfl rfl rfl (Nat.le_of_ble_eq_true rfl) dX2_restore_18 (fun H locs hw => ?_)
    have hw : ZW E A s [(h0, ob 2 [.ref qc, .ref qn, .int (nI sv), .int (nI (nx - 1))]), (qc, ia E 480 (nA G)), (qn, ia E 5 (nA C)), (hS, ob 4 [.ref q, .int (nI n)]), (q, ia E 96 (nA F))] H locs := hw
    refine lv_aload_n hx hb dX2_restore_21 rfl (lv_at hl 0 rfl) ?_
    refine z_get cx hw 0 0 rfl rfl inlX2 (by decide) wd_41 rfl dX2_restore_22 ?_
    refine lv_aload_n hx hb dX2_restore_25 rfl (lv_at hl 0 rfl) ?_
    refine z_get cx hw 0 3 rfl rfl inlX2 (by decide) wd_44 rfl dX2_restore_26 ?_
    refine lv_bipush (v := nI 96) hx hb dX2_restore_29 (by decide) ?_
    refine z_imul hx hb (96 * (nx - 1)) (by omega) dX2_restore_31 ?_
    refine lv_aload_n hx hb dX2_restore_32 rfl (lv_at hl 1 rfl) ?_
    refine z_getN cx hw 3 0 rfl rfl inlX4 (by decide) (nf_X2_27 hN) rfl dX2_restore_33 ?_
    refine lv_iconst (v := nI 0) hx hb dX2_restore_36 (by decide) ?_
    refine lv_bipush (v := nI 96) hx hb dX2_restore_37 (by decide) ?_
    refine z_copy cx hw 1 4 rfl rfl (96 * (nx - 1)) 0 96 rfl rfl rfl (by omega) (by omega) (by decide) (by decide) hl wd_94 (Nat.le_of_ble_eq_true rfl) (Nat.le_of_ble_eq_true rfl) dX2_restore_39 (fun H locs hw => ?_)
    have hw : ZW E A s [(h0, ob 2 [.ref qc, .ref qn, .int (nI sv), .int (nI (nx - 1))]), (qc, ia E 480 (nA G)), (qn, ia E 5 (nA C)), (hS, ob 4 [.ref q, .int (nI n)]), (q, ia E 96 (nA (cpyN G F (96 * (nx - 1)) 0 96)))] H locs := hw
    refine lv_aload_n hx hb dX2_restore_42 rfl (lv_at hl 1 rfl) ?_
    refine lv_aload_n hx hb dX2_restore_43 rfl (lv_at hl 0 rfl) ?_
    refine z_get cx hw 0 1 rfl rfl inlX2 (by decide) wd_42 rfl dX2_restore_44 ?_
    refine lv_aload_n hx hb dX2_restore_47 rfl (lv_at hl 0 rfl) ?_
    refine z_get cx hw 0 3 rfl rfl inlX2 (by decide) wd_44 rfl dX2_restore_48 ?_
    refine z_aldN cx hw 2 rfl (nx - 1) rfl (by omega) (by decide) dX2_restore_51 ?_
    refine z_putN cx hw 3 1 rfl rfl inlX4 tyX4_ok nmX4 (by decide) (nf_X2_34 hN) rfl rfl rfl (Nat.le_of_ble_eq_true rfl) dX2_restore_52 (fun H locs hw => ?_)
    have hw : ZW E A s [(h0, ob 2 [.ref qc, .ref qn, .int (nI sv), .int (nI (nx - 1))]), (qc, ia E 480 (nA G)), (qn, ia E 5 (nA C)), (hS, ob 4 [.ref q, .int (nI (C (nx - 1)))]), (q, ia E 96 (nA (cpyN G F (96 * (nx - 1)) 0 96)))] H locs := hw
    refine lv_aload_n hx hb dX2_restore_55 rfl (lv_at hl 0 rfl) ?_
    refine lv_dup hx hb dX2_restore_56 rfl ?_
    refine z_get cx hw 0 2 rfl rfl inlX2 (by decide) wd_43 rfl dX2_restore_57 ?_
    refine lv_iconst (v := nI 1) hx hb dX2_restore_60 (by decide) ?_
    refine z_isub hx hb (sv - 1) (by omega) rfl dX2_restore_61 ?_
    refine z_put cx hw 0 2 rfl rfl inlX2 tyX2_ok nmX2 (by decide) wd_43 rfl rfl rfl (Nat.le_of_ble_eq_true rfl) dX2_restore_62 (fun H locs hw => ?_)
    have hw : ZW E A s [(h0, ob 2 [.ref qc, .ref qn, .int (nI (sv - 1)), .int (nI (nx - 1))]), (qc, ia E 480 (nA G)), (qn, ia E 5 (nA C)), (hS, ob 4 [.ref q, .int (nI (C (nx - 1)))]), (q, ia E 96 (nA (cpyN G F (96 * (nx - 1)) 0 96)))] H locs := hw
    have e_ : (nx - 1) = prvN nx := by (simp only [prvN]; split <;> omega)
    have hw := hw.ext (g := nA (fun j => G (96 * prvN nx + j))) 4 rfl (fun j hj => by simp only [nA, cpyN]; rw [if_pos (by omega), ← e_]; rfl)
    have hw : ZW E A s [(h0, ob 2 [.ref qc, .ref qn, .int (nI (sv - 1)), .int (nI (nx - 1))]), (qc, ia E 480 (nA G)), (qn, ia E 5 (nA C)), (hS, ob 4 [.ref q, .int (nI (C (nx - 1)))]), (q, ia E 96 (nA (fun j => G (96 * prvN nx + j))))] H locs := hw
    have e_r65_0 : (nx - 1) = (prvN nx) := by rw [e_]
    have e_r65_1 : (C (nx - 1)) = (C (prvN nx)) := by rw [e_]
    exact ret () 65 ls H locs dX2_restore_65 (trivial) ((hw).cast (zc (congrArg (fun z => ((h0, ob 2 [.ref qc, .ref qn, .int (nI (sv - 1)), .int (nI z)]) : Nat × va_E)) e_r65_0) (zc rfl (zc rfl (zc (congrArg (fun z => ((hS, ob 4 [.ref q, .int (nI z)]) : Nat × va_E)) e_r65_1) rfl)))))

def rmJ7_fill_53178100 : Room := { frames := 0, cells := 0, slots := 0, locals := 0 }
set_option maxHeartbeats 4000000 in
set_option maxRecDepth 100000 in
theorem c_J7_fill_53178100 (l : Launch) (E : ZE) (q : Nat) (f : Nat → Int32) (v : Int32)  : ZMv l yJ7_fill_53178 cJ7_fill_53178 4 rmJ7_fill_53178100 E [.ref q, .int v] [(q, ia E 100 f)] (S := Unit) (fun _ => True) (fun _ => [(q, ia E 100 (fun _ => v))]) := by
  refine z_mv (by decide) (Nat.le_of_ble_eq_true rfl) ?_
  intro p e s m args below meth c A Q ls cx hin hw hl ret
  obtain ⟨hx, hb, hml, hown, hts, hK, hN, hA, hlk⟩ := id cx
  have hl : lv_has ls 4 [(0, .ref q), (1, .int v)] := hl
  refine lv_iconst (v := nI 0) hx hb dJ7_fill_53178_0 (by decide) ?_
  refine lv_istore_n (lv' := [(2, .int (nI 0)), (0, .ref q), (1, .int v)]) hx hb dJ7_fill_53178_1 rfl hl (by decide) rfl (fun ls hl => ?_)
  refine lv_aload_n hx hb dJ7_fill_53178_2 rfl (lv_at hl 1 rfl) ?_
  refine z_alen cx hw 0 rfl dJ7_fill_53178_3 ?_
  refine lv_istore_n (lv' := [(3, .int (nI 100)), (2, .int (nI 0)), (0, .ref q), (1, .int v)]) hx hb dJ7_fill_53178_4 rfl hl (by decide) rfl (fun ls hl => ?_)
  have loop_5 : ∀ (fuel : Nat) (k : Nat) (hk : k ≤ 100) (hm : 100 - k < fuel) (H : Heap) (locs : List Loc) (ls : Array Slot), ZW E A s [(q, ia E 100 (fil f v k))] H locs → lv_has ls 4 [(0, .ref q), (1, .int v), (2, .int (nI k)), (3, .int (nI 100))] → W p l e rmJ7_fill_53178100 s m args below meth c H locs 0 0 Q (F0 m 5 ls []) := by
    intro fuel
    induction fuel with
    | zero => intro k hk hm; exact absurd hm (Nat.not_lt_zero _)
    | succ fuel ih_5 =>
      intro k hk hm H locs ls hw hl
      refine lv_iload_n hx hb dJ7_fill_53178_5 rfl (lv_at hl 2 rfl) ?_
      refine lv_iload_n hx hb dJ7_fill_53178_6 rfl (lv_at hl 3 rfl) ?_
      refine z_icmp_ge hx hb (by omega) (by decide) 20 dJ7_fill_53178_7 (by decide) (fun c_7 => ?_) (fun c_7 => ?_)
      · have hw := hw.ext (g := fun _ => v) 0 rfl (fun j hj => by simp only [fil]; rw [if_pos (by omega)])
        have hw : ZW E A s [(q, ia E 100 (fun _ => v))] H locs := hw
        exact ret () 20 ls H locs dJ7_fill_53178_20 (trivial) (hw)
      · refine lv_aload_n hx hb dJ7_fill_53178_10 rfl (lv_at hl 0 rfl) ?_
        refine lv_iload_n hx hb dJ7_fill_53178_11 rfl (lv_at hl 2 rfl) ?_
        refine lv_iload_n hx hb dJ7_fill_53178_12 rfl (lv_at hl 1 rfl) ?_
        refine z_ast cx hw 0 rfl (k) rfl (by omega) (by decide) dJ7_fill_53178_13 (fun H locs hw => ?_)
        have hw : ZW E A s [(q, ia E 100 (upd (fil f v k) k v))] H locs := hw
        refine lv_iinc (v := nI (k + 1)) (lv' := [(2, .int (nI (k + 1))), (0, .ref q), (1, .int v), (3, .int (nI 100))]) hx hb dJ7_fill_53178_14 hl (k := 2) rfl (nI_1 _) (by decide) rfl (fun ls hl => ?_)
        refine lv_goto (tgt := 5) hx hb dJ7_fill_53178_17 (by decide) ?_
        have e_b5_0 : (upd (fil f v k) k v) = (fil f v (k + 1)) := by rw [fil_s]
        exact ih_5 (k + 1) (by omega) (by omega) _ _ ls ((hw).cast (zc (congrArg (fun z => ((q, ia E 100 z) : Nat × va_E)) e_b5_0) rfl)) (lv_add (lv_add (lv_add (lv_add (lv_nil hl) (lv_at hl 3 rfl)) (lv_at hl 0 rfl)) (lv_at hl 2 rfl)) (lv_at hl 1 rfl))
  have e_i5_0 : f = (fil f v 0) := by rw [fil_0]
  exact loop_5 _ 0 (by omega) (Nat.lt_succ_self _) _ _ ls ((hw).cast (zc (congrArg (fun z => ((q, ia E 100 z) : Nat × va_E)) e_i5_0) rfl)) (lv_add (lv_add (lv_add (lv_add (lv_nil hl) (lv_at hl 0 rfl)) (lv_at hl 1 rfl)) (lv_at hl 3 rfl)) (lv_at hl 2 rfl))

def rmJ7_fill_5317820 : Room := { frames := 0, cells := 0, slots := 0, locals := 0 }
set_option maxHeartbeats 4000000 in
set_option maxRecDepth 100000 in
theorem c_J7_fill_5317820 (l : Launch) (E : ZE) (q : Nat) (f : Nat → Int32) (v : Int32)  : ZMv l yJ7_fill_53178 cJ7_fill_53178 4 rmJ7_fill_5317820 E [.ref q, .int v] [(q, ia E 20 f)] (S := Unit) (fun _ => True) (fun _ => [(q, ia E 20 (fun _ => v))]) := by
  refine z_mv (by decide) (Nat.le_of_ble_eq_true rfl) ?_
  intro p e s m args below meth c A Q ls cx hin hw hl ret
  obtain ⟨hx, hb, hml, hown, hts, hK, hN, hA, hlk⟩ := id cx
  have hl : lv_has ls 4 [(0, .ref q), (1, .int v)] := hl
  refine lv_iconst (v := nI 0) hx hb dJ7_fill_53178_0 (by decide) ?_
  refine lv_istore_n (lv' := [(2, .int (nI 0)), (0, .ref q), (1, .int v)]) hx hb dJ7_fill_53178_1 rfl hl (by decide) rfl (fun ls hl => ?_)
  refine lv_aload_n hx hb dJ7_fill_53178_2 rfl (lv_at hl 1 rfl) ?_
  refine z_alen cx hw 0 rfl dJ7_fill_53178_3 ?_
  refine lv_istore_n (lv' := [(3, .int (nI 20)), (2, .int (nI 0)), (0, .ref q), (1, .int v)]) hx hb dJ7_fill_53178_4 rfl hl (by decide) rfl (fun ls hl => ?_)
  have loop_5 : ∀ (fuel : Nat) (k : Nat) (hk : k ≤ 20) (hm : 20 - k < fuel) (H : Heap) (locs : List Loc) (ls : Array Slot), ZW E A s [(q, ia E 20 (fil f v k))] H locs → lv_has ls 4 [(0, .ref q), (1, .int v), (2, .int (nI k)), (3, .int (nI 20))] → W p l e rmJ7_fill_5317820 s m args below meth c H locs 0 0 Q (F0 m 5 ls []) := by
    intro fuel
    induction fuel with
    | zero => intro k hk hm; exact absurd hm (Nat.not_lt_zero _)
    | succ fuel ih_5 =>
      intro k hk hm H locs ls hw hl
      refine lv_iload_n hx hb dJ7_fill_53178_5 rfl (lv_at hl 2 rfl) ?_
      refine lv_iload_n hx hb dJ7_fill_53178_6 rfl (lv_at hl 3 rfl) ?_
      refine z_icmp_ge hx hb (by omega) (by decide) 20 dJ7_fill_53178_7 (by decide) (fun c_7 => ?_) (fun c_7 => ?_)
      · have hw := hw.ext (g := fun _ => v) 0 rfl (fun j hj => by simp only [fil]; rw [if_pos (by omega)])
        have hw : ZW E A s [(q, ia E 20 (fun _ => v))] H locs := hw
        exact ret () 20 ls H locs dJ7_fill_53178_20 (trivial) (hw)
      · refine lv_aload_n hx hb dJ7_fill_53178_10 rfl (lv_at hl 0 rfl) ?_
        refine lv_iload_n hx hb dJ7_fill_53178_11 rfl (lv_at hl 2 rfl) ?_
        refine lv_iload_n hx hb dJ7_fill_53178_12 rfl (lv_at hl 1 rfl) ?_
        refine z_ast cx hw 0 rfl (k) rfl (by omega) (by decide) dJ7_fill_53178_13 (fun H locs hw => ?_)
        have hw : ZW E A s [(q, ia E 20 (upd (fil f v k) k v))] H locs := hw
        refine lv_iinc (v := nI (k + 1)) (lv' := [(2, .int (nI (k + 1))), (0, .ref q), (1, .int v), (3, .int (nI 20))]) hx hb dJ7_fill_53178_14 hl (k := 2) rfl (nI_1 _) (by decide) rfl (fun ls hl => ?_)
        refine lv_goto (tgt := 5) hx hb dJ7_fill_53178_17 (by decide) ?_
        have e_b5_0 : (upd (fil f v k) k v) = (fil f v (k + 1)) := by rw [fil_s]
        exact ih_5 (k + 1) (by omega) (by omega) _ _ ls ((hw).cast (zc (congrArg (fun z => ((q, ia E 20 z) : Nat × va_E)) e_b5_0) rfl)) (lv_add (lv_add (lv_add (lv_add (lv_nil hl) (lv_at hl 3 rfl)) (lv_at hl 0 rfl)) (lv_at hl 2 rfl)) (lv_at hl 1 rfl))
  have e_i5_0 : f = (fil f v 0) := by rw [fil_0]
  exact loop_5 _ 0 (by omega) (Nat.lt_succ_self _) _ _ ls ((hw).cast (zc (congrArg (fun z => ((q, ia E 20 z) : Nat × va_E)) e_i5_0) rfl)) (lv_add (lv_add (lv_add (lv_add (lv_nil hl) (lv_at hl 0 rfl)) (lv_at hl 1 rfl)) (lv_at hl 3 rfl)) (lv_at hl 2 rfl))

def rmJ7_fill_5317824 : Room := { frames := 0, cells := 0, slots := 0, locals := 0 }
set_option maxHeartbeats 4000000 in
set_option maxRecDepth 100000 in
theorem c_J7_fill_5317824 (l : Launch) (E : ZE) (q : Nat) (f : Nat → Int32) (v : Int32)  : ZMv l yJ7_fill_53178 cJ7_fill_53178 4 rmJ7_fill_5317824 E [.ref q, .int v] [(q, ia E 24 f)] (S := Unit) (fun _ => True) (fun _ => [(q, ia E 24 (fun _ => v))]) := by
  refine z_mv (by decide) (Nat.le_of_ble_eq_true rfl) ?_
  intro p e s m args below meth c A Q ls cx hin hw hl ret
  obtain ⟨hx, hb, hml, hown, hts, hK, hN, hA, hlk⟩ := id cx
  have hl : lv_has ls 4 [(0, .ref q), (1, .int v)] := hl
  refine lv_iconst (v := nI 0) hx hb dJ7_fill_53178_0 (by decide) ?_
  refine lv_istore_n (lv' := [(2, .int (nI 0)), (0, .ref q), (1, .int v)]) hx hb dJ7_fill_53178_1 rfl hl (by decide) rfl (fun ls hl => ?_)
  refine lv_aload_n hx hb dJ7_fill_53178_2 rfl (lv_at hl 1 rfl) ?_
  refine z_alen cx hw 0 rfl dJ7_fill_53178_3 ?_
  refine lv_istore_n (lv' := [(3, .int (nI 24)), (2, .int (nI 0)), (0, .ref q), (1, .int v)]) hx hb dJ7_fill_53178_4 rfl hl (by decide) rfl (fun ls hl => ?_)
  have loop_5 : ∀ (fuel : Nat) (k : Nat) (hk : k ≤ 24) (hm : 24 - k < fuel) (H : Heap) (locs : List Loc) (ls : Array Slot), ZW E A s [(q, ia E 24 (fil f v k))] H locs → lv_has ls 4 [(0, .ref q), (1, .int v), (2, .int (nI k)), (3, .int (nI 24))] → W p l e rmJ7_fill_5317824 s m args below meth c H locs 0 0 Q (F0 m 5 ls []) := by
    intro fuel
    induction fuel with
    | zero => intro k hk hm; exact absurd hm (Nat.not_lt_zero _)
    | succ fuel ih_5 =>
      intro k hk hm H locs ls hw hl
      refine lv_iload_n hx hb dJ7_fill_53178_5 rfl (lv_at hl 2 rfl) ?_
      refine lv_iload_n hx hb dJ7_fill_53178_6 rfl (lv_at hl 3 rfl) ?_
      refine z_icmp_ge hx hb (by omega) (by decide) 20 dJ7_fill_53178_7 (by decide) (fun c_7 => ?_) (fun c_7 => ?_)
      · have hw := hw.ext (g := fun _ => v) 0 rfl (fun j hj => by simp only [fil]; rw [if_pos (by omega)])
        have hw : ZW E A s [(q, ia E 24 (fun _ => v))] H locs := hw
        exact ret () 20 ls H locs dJ7_fill_53178_20 (trivial) (hw)
      · refine lv_aload_n hx hb dJ7_fill_53178_10 rfl (lv_at hl 0 rfl) ?_
        refine lv_iload_n hx hb dJ7_fill_53178_11 rfl (lv_at hl 2 rfl) ?_
        refine lv_iload_n hx hb dJ7_fill_53178_12 rfl (lv_at hl 1 rfl) ?_
        refine z_ast cx hw 0 rfl (k) rfl (by omega) (by decide) dJ7_fill_53178_13 (fun H locs hw => ?_)
        have hw : ZW E A s [(q, ia E 24 (upd (fil f v k) k v))] H locs := hw
        refine lv_iinc (v := nI (k + 1)) (lv' := [(2, .int (nI (k + 1))), (0, .ref q), (1, .int v), (3, .int (nI 24))]) hx hb dJ7_fill_53178_14 hl (k := 2) rfl (nI_1 _) (by decide) rfl (fun ls hl => ?_)
        refine lv_goto (tgt := 5) hx hb dJ7_fill_53178_17 (by decide) ?_
        have e_b5_0 : (upd (fil f v k) k v) = (fil f v (k + 1)) := by rw [fil_s]
        exact ih_5 (k + 1) (by omega) (by omega) _ _ ls ((hw).cast (zc (congrArg (fun z => ((q, ia E 24 z) : Nat × va_E)) e_b5_0) rfl)) (lv_add (lv_add (lv_add (lv_add (lv_nil hl) (lv_at hl 3 rfl)) (lv_at hl 0 rfl)) (lv_at hl 2 rfl)) (lv_at hl 1 rfl))
  have e_i5_0 : f = (fil f v 0) := by rw [fil_0]
  exact loop_5 _ 0 (by omega) (Nat.lt_succ_self _) _ _ ls ((hw).cast (zc (congrArg (fun z => ((q, ia E 24 z) : Nat × va_E)) e_i5_0) rfl)) (lv_add (lv_add (lv_add (lv_add (lv_nil hl) (lv_at hl 0 rfl)) (lv_at hl 1 rfl)) (lv_at hl 3 rfl)) (lv_at hl 2 rfl))

def rmX1_has : Room := { frames := 0, cells := 0, slots := 0, locals := 0 }
set_option maxHeartbeats 4000000 in
set_option maxRecDepth 100000 in
theorem c_X1_has (l : Launch) (E : ZE) (h0 qp qd d0 d1 ql l0 l1 qg g0 g1 : Nat) (P : Nat → Int32) (D0 D1 L0 L1 G0 G1 : Nat → Nat) (mm : Nat) (x : Int32) (hmm : mm ≤ 24) : ZMi l yX1_has cX1_has 2 (some .boolean) rmX1_has E [.ref h0, .int x] [(h0, ob 1 [.ref qp, .ref qd, .ref ql, .ref qg, .int (nI mm)]), (qp, ia E 100 P), (qd, ra E d0 d1), (d0, ia E 24 (nA D0)), (d1, ia E 24 (nA D1)), (ql, ra E l0 l1), (l0, ia E 24 (nA L0)), (l1, ia E 24 (nA L1)), (qg, ra E g0 g1), (g0, ia E 24 (nA G0)), (g1, ia E 24 (nA G1))] (S := Unit) (fun r _ => r = bI (inR x mm)) (fun _ => [(h0, ob 1 [.ref qp, .ref qd, .ref ql, .ref qg, .int (nI mm)]), (qp, ia E 100 P), (qd, ra E d0 d1), (d0, ia E 24 (nA D0)), (d1, ia E 24 (nA D1)), (ql, ra E l0 l1), (l0, ia E 24 (nA L0)), (l1, ia E 24 (nA L1)), (qg, ra E g0 g1), (g0, ia E 24 (nA G0)), (g1, ia E 24 (nA G1))]) := by
  refine z_mz (by decide) (Nat.le_of_ble_eq_true rfl) ?_
  intro p e s m args below meth c A Q ls cx hin hw hl ret
  obtain ⟨hx, hb, hml, hown, hts, hK, hN, hA, hlk⟩ := id cx
  have hl : lv_has ls 2 [(0, .ref h0), (1, .int x)] := hl
  refine lv_iload_n hx hb dX1_has_0 rfl (lv_at hl 1 rfl) ?_
  refine lv_if_lt (tgt := 16) hx hb dX1_has_1 (by decide) (fun c_1 => ?_) (fun c_1 => ?_)
  · refine lv_iconst (v := nI 0) hx hb dX1_has_16 (by decide) ?_
    exact ret false () 17 ls s.heap [] dX1_has_17 (congrArg bI (by rw [inR_neg c_1])) (hw)
  · refine lv_iload_n hx hb dX1_has_4 rfl (lv_at hl 1 rfl) ?_
    refine lv_aload_n hx hb dX1_has_5 rfl (lv_at hl 0 rfl) ?_
    refine z_get cx hw 0 4 rfl rfl inlX1 (by decide) wd_53 rfl dX1_has_6 ?_
    refine lv_icmp_ge (tgt := 16) hx hb dX1_has_9 (by decide) (fun c_9 => ?_) (fun c_9 => ?_)
    · refine lv_iconst (v := nI 0) hx hb dX1_has_16 (by decide) ?_
      exact ret false () 17 ls s.heap [] dX1_has_17 (congrArg bI (by rw [inR_ge (by omega) c_9])) (hw)
    · refine lv_iconst (v := nI 1) hx hb dX1_has_12 (by decide) ?_
      refine lv_goto (tgt := 17) hx hb dX1_has_13 (by decide) ?_
      exact ret true () 17 ls s.heap [] dX1_has_17 (congrArg bI (by rw [inR_in (by omega) c_1 c_9])) (hw)

def rmX1_pairOf : Room := { frames := 1, cells := 0, slots := 0, locals := 22 }
set_option maxHeartbeats 4000000 in
set_option maxRecDepth 100000 in
theorem c_X1_pairOf (l : Launch) (E : ZE) (h0 q : Nat) (F : Nat → Nat) (n k : Nat) (hk : k < 24) : ZMi l yX1_pairOf cX1_pairOf 2 (some .int) rmX1_pairOf E [.ref h0, .int (nI k)] [(h0, ob 4 [.ref q, .int (nI n)]), (q, ia E 96 (nA F))] (S := Unit) (fun r _ => r = nI (pr F k)) (fun _ => [(h0, ob 4 [.ref q, .int (nI n)]), (q, ia E 96 (nA F))]) := by
  refine z_mi (by decide) (Nat.le_of_ble_eq_true rfl) ?_
  intro p e s m args below meth c A Q ls cx hin hw hl ret
  obtain ⟨hx, hb, hml, hown, hts, hK, hN, hA, hlk⟩ := id cx
  have hl : lv_has ls 2 [(0, .ref h0), (1, .int (nI k))] := hl
  refine lv_bipush (v := nI 10) hx hb dX1_pairOf_0 (by decide) ?_
  refine lv_aload_n hx hb dX1_pairOf_2 rfl (lv_at hl 0 rfl) ?_
  refine lv_iload_n hx hb dX1_pairOf_3 rfl (lv_at hl 1 rfl) ?_
  refine lv_iconst (v := nI 0) hx hb dX1_pairOf_4 (by decide) ?_
  refine z_ri0 (wr := []) cx hw [0, 1] [] rfl rfl (by decide) (by decide) rfl rfl (z_runVN (As := [.int (nI k), .int (nI 0)]) (rest := [.int (nI 10)]) cx hw rfl rfl [0, 1] rfl rfl (c_X4_die l E h0 q F n k 0 (by omega) (by omega) s.heap.size) mf_X4_die (nm_X1_56 hN) ⟨Nat.le_of_ble_eq_true rfl, Nat.le_of_ble_eq_true rfl⟩ hl (Nat.le_of_ble_eq_true rfl) dX1_pairOf_5 ⟨Nat.le_of_ble_eq_true rfl, Nat.le_of_ble_eq_true rfl⟩) (fun r _ H locs hp hw => ?_)
  have hr_5 := hp
  have hr_5 : r = nI (F (4 * k + 0)) := hr_5
  subst hr_5
  have hw : ZW E A s [(h0, ob 4 [.ref q, .int (nI n)]), (q, ia E 96 (nA F))] H locs := hw
  refine z_imul hx hb (10 * (F (4 * k + 0))) rfl dX1_pairOf_8 ?_
  refine lv_aload_n hx hb dX1_pairOf_9 rfl (lv_at hl 0 rfl) ?_
  refine lv_iload_n hx hb dX1_pairOf_10 rfl (lv_at hl 1 rfl) ?_
  refine lv_iconst (v := nI 1) hx hb dX1_pairOf_11 (by decide) ?_
  refine z_ri0 (wr := []) cx hw [0, 1] [] rfl rfl (by decide) (by decide) rfl rfl (z_runVN (As := [.int (nI k), .int (nI 1)]) (rest := [.int (nI (10 * (F (4 * k + 0))))]) cx hw rfl rfl [0, 1] rfl rfl (c_X4_die l E h0 q F n k 1 (by omega) (by omega) H.size) mf_X4_die (nm_X1_56 hN) ⟨Nat.le_of_ble_eq_true rfl, Nat.le_of_ble_eq_true rfl⟩ hl (Nat.le_of_ble_eq_true rfl) dX1_pairOf_12 ⟨Nat.le_of_ble_eq_true rfl, Nat.le_of_ble_eq_true rfl⟩) (fun r _ H locs hp hw => ?_)
  have hr_12 := hp
  have hr_12 : r = nI (F (4 * k + 1)) := hr_12
  subst hr_12
  have hw : ZW E A s [(h0, ob 4 [.ref q, .int (nI n)]), (q, ia E 96 (nA F))] H locs := hw
  refine z_iadd hx hb ((10 * (F (4 * k + 0))) + (F (4 * k + 1))) rfl dX1_pairOf_15 ?_
  exact ret (nI ((10 * (F (4 * k + 0))) + (F (4 * k + 1)))) () 16 ls H locs dX1_pairOf_16 (congrArg nI (by rfl)) (hw)

def rmX1_markPairs : Room := { frames := 2, cells := 0, slots := 0, locals := 43 }
set_option maxHeartbeats 4000000 in
set_option maxRecDepth 100000 in
theorem c_X1_markPairs (l : Launch) (E : ZE) (h0 qp qd d0 d1 ql l0 l1 qg g0 g1 : Nat) (P : Nat → Int32) (D0 D1 L0 L1 G0 G1 : Nat → Nat) (mm : Nat) (hS q : Nat) (F : Nat → Nat) (n : Nat) (hn : n ≤ 24) (hF : ∀ j, F j < 10) : ZMv l yX1_markPairs cX1_markPairs 3 rmX1_markPairs E [.ref h0, .ref hS] [(h0, ob 1 [.ref qp, .ref qd, .ref ql, .ref qg, .int (nI mm)]), (qp, ia E 100 P), (qd, ra E d0 d1), (d0, ia E 24 (nA D0)), (d1, ia E 24 (nA D1)), (ql, ra E l0 l1), (l0, ia E 24 (nA L0)), (l1, ia E 24 (nA L1)), (qg, ra E g0 g1), (g0, ia E 24 (nA G0)), (g1, ia E 24 (nA G1)), (hS, ob 4 [.ref q, .int (nI n)]), (q, ia E 96 (nA F))] (S := Unit) (fun _ => True) (fun _ => [(h0, ob 1 [.ref qp, .ref qd, .ref ql, .ref qg, .int (nI mm)]), (qp, ia E 100 (mkb (hasP F n))), (qd, ra E d0 d1), (d0, ia E 24 (nA D0)), (d1, ia E 24 (nA D1)), (ql, ra E l0 l1), (l0, ia E 24 (nA L0)), (l1, ia E 24 (nA L1)), (qg, ra E g0 g1), (g0, ia E 24 (nA G0)), (g1, ia E 24 (nA G1)), (hS, ob 4 [.ref q, .int (nI n)]), (q, ia E 96 (nA F))]) := by
  refine z_mv (by decide) (Nat.le_of_ble_eq_true rfl) ?_
  intro p e s m args below meth c A Q ls cx hin hw hl ret
  obtain ⟨hx, hb, hml, hown, hts, hK, hN, hA, hlk⟩ := id cx
  have hl : lv_has ls 3 [(0, .ref h0), (1, .ref hS)] := hl
  refine lv_aload_n hx hb dX1_markPairs_0 rfl (lv_at hl 0 rfl) ?_
  refine z_get cx hw 0 0 rfl rfl inlX1 (by decide) wd_48 rfl dX1_markPairs_1 ?_
  refine lv_iconst (v := (-1)) hx hb dX1_markPairs_4 (by decide) ?_
  refine z_rv0 (wr := [(h0, ob 1 [.ref qp, .ref qd, .ref ql, .ref qg, .int (nI mm)]), (qd, ra E d0 d1), (d0, ia E 24 (nA D0)), (d1, ia E 24 (nA D1)), (ql, ra E l0 l1), (l0, ia E 24 (nA L0)), (l1, ia E 24 (nA L1)), (qg, ra E g0 g1), (g0, ia E 24 (nA G0)), (g1, ia E 24 (nA G1)), (hS, ob 4 [.ref q, .int (nI n)]), (q, ia E 96 (nA F))]) cx hw [1] [0, 2, 3, 4, 5, 6, 7, 8, 9, 10, 11, 12] rfl rfl (by decide) (by decide) rfl rfl (z_runS (As := [.ref qp, .int ((-1))]) (rest := []) cx hw [1] rfl rfl (c_J7_fill_53178100 l E qp P (-1)  s.heap.size) mf_J7_fill_53178 wd_249 ⟨Nat.le_of_ble_eq_true rfl, Nat.le_of_ble_eq_true rfl⟩ hl (Nat.le_of_ble_eq_true rfl) dX1_markPairs_5 ⟨Nat.le_of_ble_eq_true rfl, Nat.le_of_ble_eq_true rfl⟩) (fun _ H locs hp hw => ?_)
  have hw : ZW E A s [(h0, ob 1 [.ref qp, .ref qd, .ref ql, .ref qg, .int (nI mm)]), (qd, ra E d0 d1), (d0, ia E 24 (nA D0)), (d1, ia E 24 (nA D1)), (ql, ra E l0 l1), (l0, ia E 24 (nA L0)), (l1, ia E 24 (nA L1)), (qg, ra E g0 g1), (g0, ia E 24 (nA G0)), (g1, ia E 24 (nA G1)), (hS, ob 4 [.ref q, .int (nI n)]), (q, ia E 96 (nA F)), (qp, ia E 100 (fun _ => (-1)))] H locs := hw
  refine lv_iconst (v := nI 0) hx hb dX1_markPairs_8 (by decide) ?_
  refine lv_istore_n (lv' := [(2, .int (nI 0)), (0, .ref h0), (1, .ref hS)]) hx hb dX1_markPairs_9 rfl hl (by decide) rfl (fun ls hl => ?_)
  have loop_10 : ∀ (fuel : Nat) (k : Nat) (hk : k ≤ n) (hm : n - k < fuel) (H : Heap) (locs : List Loc) (ls : Array Slot), ZW E A s [(h0, ob 1 [.ref qp, .ref qd, .ref ql, .ref qg, .int (nI mm)]), (qd, ra E d0 d1), (d0, ia E 24 (nA D0)), (d1, ia E 24 (nA D1)), (ql, ra E l0 l1), (l0, ia E 24 (nA L0)), (l1, ia E 24 (nA L1)), (qg, ra E g0 g1), (g0, ia E 24 (nA G0)), (g1, ia E 24 (nA G1)), (hS, ob 4 [.ref q, .int (nI n)]), (q, ia E 96 (nA F)), (qp, ia E 100 (mkb (hasP F k)))] H locs → lv_has ls 3 [(0, .ref h0), (1, .ref hS), (2, .int (nI k))] → W p l e rmX1_markPairs s m args below meth c H locs 0 0 Q (F0 m 10 ls []) := by
    intro fuel
    induction fuel with
    | zero => intro k hk hm; exact absurd hm (Nat.not_lt_zero _)
    | succ fuel ih_10 =>
      intro k hk hm H locs ls hw hl
      refine lv_iload_n hx hb dX1_markPairs_10 rfl (lv_at hl 2 rfl) ?_
      refine lv_aload_n hx hb dX1_markPairs_11 rfl (lv_at hl 1 rfl) ?_
      refine z_getN cx hw 10 1 rfl rfl inlX4 (by decide) (nf_X1_37 hN) rfl dX1_markPairs_12 ?_
      refine z_icmp_ge hx hb (by omega) (by omega) 35 dX1_markPairs_15 (by decide) (fun c_15 => ?_) (fun c_15 => ?_)
      · have e_ : k = n := by omega
        have e_r35_0 : (mkb (hasP F k)) = (mkb (hasP F n)) := by rw [e_]
        exact ret () 35 ls H locs dX1_markPairs_35 (trivial) ((hw.perm [0, 12, 1, 2, 3, 4, 5, 6, 7, 8, 9, 10, 11] rfl (by decide)).cast (zc rfl (zc (congrArg (fun z => ((qp, ia E 100 z) : Nat × va_E)) e_r35_0) rfl)))
      · refine lv_aload_n hx hb dX1_markPairs_18 rfl (lv_at hl 0 rfl) ?_
        refine z_get cx hw 0 0 rfl rfl inlX1 (by decide) wd_48 rfl dX1_markPairs_19 ?_
        refine lv_aload_n hx hb dX1_markPairs_22 rfl (lv_at hl 1 rfl) ?_
        refine lv_iload_n hx hb dX1_markPairs_23 rfl (lv_at hl 2 rfl) ?_
        refine z_ri0 (wr := [(h0, ob 1 [.ref qp, .ref qd, .ref ql, .ref qg, .int (nI mm)]), (qd, ra E d0 d1), (d0, ia E 24 (nA D0)), (d1, ia E 24 (nA D1)), (ql, ra E l0 l1), (l0, ia E 24 (nA L0)), (l1, ia E 24 (nA L1)), (qg, ra E g0 g1), (g0, ia E 24 (nA G0)), (g1, ia E 24 (nA G1)), (qp, ia E 100 (mkb (hasP F k)))]) cx hw [10, 11] [0, 1, 2, 3, 4, 5, 6, 7, 8, 9, 12] rfl rfl (by decide) (by decide) rfl rfl (z_runS (As := [.ref hS, .int (nI k)]) (rest := [.ref qp]) cx hw [10, 11] rfl rfl (c_X1_pairOf l E hS q F n k (by omega) H.size) mf_X1_pairOf wd_253 ⟨Nat.le_of_ble_eq_true rfl, Nat.le_of_ble_eq_true rfl⟩ hl (Nat.le_of_ble_eq_true rfl) dX1_markPairs_24 ⟨Nat.le_of_ble_eq_true rfl, Nat.le_of_ble_eq_true rfl⟩) (fun r _ H locs hp hw => ?_)
        have hr_24 := hp
        have hr_24 : r = nI (pr F k) := hr_24
        subst hr_24
        have hw : ZW E A s [(h0, ob 1 [.ref qp, .ref qd, .ref ql, .ref qg, .int (nI mm)]), (qd, ra E d0 d1), (d0, ia E 24 (nA D0)), (d1, ia E 24 (nA D1)), (ql, ra E l0 l1), (l0, ia E 24 (nA L0)), (l1, ia E 24 (nA L1)), (qg, ra E g0 g1), (g0, ia E 24 (nA G0)), (g1, ia E 24 (nA G1)), (qp, ia E 100 (mkb (hasP F k))), (hS, ob 4 [.ref q, .int (nI n)]), (q, ia E 96 (nA F))] H locs := hw
        refine lv_iconst (v := nI 0) hx hb dX1_markPairs_27 (by decide) ?_
        have h_ := pr_lt hF k
        refine z_ast cx hw 10 rfl (pr F k) rfl (by omega) (by decide) dX1_markPairs_28 (fun H locs hw => ?_)
        have hw : ZW E A s [(h0, ob 1 [.ref qp, .ref qd, .ref ql, .ref qg, .int (nI mm)]), (qd, ra E d0 d1), (d0, ia E 24 (nA D0)), (d1, ia E 24 (nA D1)), (ql, ra E l0 l1), (l0, ia E 24 (nA L0)), (l1, ia E 24 (nA L1)), (qg, ra E g0 g1), (g0, ia E 24 (nA G0)), (g1, ia E 24 (nA G1)), (qp, ia E 100 (upd (mkb (hasP F k)) (pr F k) (nI 0))), (hS, ob 4 [.ref q, .int (nI n)]), (q, ia E 96 (nA F))] H locs := hw
        refine lv_iinc (v := nI (k + 1)) (lv' := [(2, .int (nI (k + 1))), (0, .ref h0), (1, .ref hS)]) hx hb dX1_markPairs_29 hl (k := 2) rfl (nI_1 _) (by decide) rfl (fun ls hl => ?_)
        refine lv_goto (tgt := 10) hx hb dX1_markPairs_32 (by decide) ?_
        have e_b10_0 : (upd (mkb (hasP F k)) (pr F k) (nI 0)) = (mkb (hasP F (k + 1))) := by rw [mkb_s]
        exact ih_10 (k + 1) (by omega) (by omega) _ _ ls ((hw.perm [0, 1, 2, 3, 4, 5, 6, 7, 8, 9, 11, 12, 10] rfl (by decide)).cast (zc rfl (zc rfl (zc rfl (zc rfl (zc rfl (zc rfl (zc rfl (zc rfl (zc rfl (zc rfl (zc rfl (zc rfl (zc (congrArg (fun z => ((qp, ia E 100 z) : Nat × va_E)) e_b10_0) rfl)))))))))))))) (lv_add (lv_add (lv_add (lv_nil hl) (lv_at hl 0 rfl)) (lv_at hl 2 rfl)) (lv_at hl 1 rfl))
  have e_i10_0 : (fun _ => (-1)) = (mkb (hasP F 0)) := by rw [mkb_0 F]
  exact loop_10 _ 0 (by omega) (Nat.lt_succ_self _) _ _ ls ((hw).cast (zc rfl (zc rfl (zc rfl (zc rfl (zc rfl (zc rfl (zc rfl (zc rfl (zc rfl (zc rfl (zc rfl (zc rfl (zc (congrArg (fun z => ((qp, ia E 100 z) : Nat × va_E)) e_i10_0) rfl)))))))))))))) (lv_add (lv_add (lv_add (lv_nil hl) (lv_at hl 0 rfl)) (lv_at hl 2 rfl)) (lv_at hl 1 rfl))

def rmX1_enter : Room := { frames := 0, cells := 0, slots := 0, locals := 0 }
set_option maxHeartbeats 4000000 in
set_option maxRecDepth 100000 in
theorem c_X1_enter (l : Launch) (E : ZE) (h0 qp qd d0 d1 ql l0 l1 qg g0 g1 : Nat) (P : Nat → Int32) (D0 D1 L0 L1 G0 G1 : Nat → Nat) (mm : Nat) (o v : Nat) (hmm : mm < 24) : ZMv l yX1_enter cX1_enter 4 rmX1_enter E [.ref h0, .int (nI o), .int (nI v)] [(h0, ob 1 [.ref qp, .ref qd, .ref ql, .ref qg, .int (nI mm)]), (qp, ia E 100 P), (qd, ra E d0 d1), (d0, ia E 24 (nA D0)), (d1, ia E 24 (nA D1)), (ql, ra E l0 l1), (l0, ia E 24 (nA L0)), (l1, ia E 24 (nA L1)), (qg, ra E g0 g1), (g0, ia E 24 (nA G0)), (g1, ia E 24 (nA G1))] (S := Unit) (fun _ => True) (fun _ => [(h0, ob 1 [.ref qp, .ref qd, .ref ql, .ref qg, .int (nI (mm + 1))]), (qp, ia E 100 P), (qd, ra E d0 d1), (d0, ia E 24 (nA (updN D0 mm o))), (d1, ia E 24 (nA (updN D1 mm v))), (ql, ra E l0 l1), (l0, ia E 24 (nA (updN L0 mm 5))), (l1, ia E 24 (nA (updN L1 mm 5))), (qg, ra E g0 g1), (g0, ia E 24 (nA (updN G0 mm 0))), (g1, ia E 24 (nA (updN G1 mm 0)))]) := by
  refine z_mv (by decide) (Nat.le_of_ble_eq_true rfl) ?_
  intro p e s m args below meth c A Q ls cx hin hw hl ret
  obtain ⟨hx, hb, hml, hown, hts, hK, hN, hA, hlk⟩ := id cx
  have hl : lv_has ls 4 [(0, .ref h0), (1, .int (nI o)), (2, .int (nI v))] := hl
  refine lv_aload_n hx hb dX1_enter_0 rfl (lv_at hl 0 rfl) ?_
  refine z_get cx hw 0 1 rfl rfl inlX1 (by decide) wd_50 rfl dX1_enter_1 ?_
  refine lv_iconst (v := nI 0) hx hb dX1_enter_4 (by decide) ?_
  refine z_aald0 cx hw 2 rfl dX1_enter_5 ?_
  refine lv_aload_n hx hb dX1_enter_6 rfl (lv_at hl 0 rfl) ?_
  refine z_get cx hw 0 4 rfl rfl inlX1 (by decide) wd_53 rfl dX1_enter_7 ?_
  refine lv_iload_n hx hb dX1_enter_10 rfl (lv_at hl 1 rfl) ?_
  refine z_astN cx hw 3 rfl (mm) rfl (by omega) (by decide) dX1_enter_11 (fun H locs hw => ?_)
  have hw : ZW E A s [(h0, ob 1 [.ref qp, .ref qd, .ref ql, .ref qg, .int (nI mm)]), (qp, ia E 100 P), (qd, ra E d0 d1), (d0, ia E 24 (nA (updN D0 mm o))), (d1, ia E 24 (nA D1)), (ql, ra E l0 l1), (l0, ia E 24 (nA L0)), (l1, ia E 24 (nA L1)), (qg, ra E g0 g1), (g0, ia E 24 (nA G0)), (g1, ia E 24 (nA G1))] H locs := hw
  refine lv_aload_n hx hb dX1_enter_12 rfl (lv_at hl 0 rfl) ?_
  refine z_get cx hw 0 1 rfl rfl inlX1 (by decide) wd_50 rfl dX1_enter_13 ?_
  refine lv_iconst (v := nI 1) hx hb dX1_enter_16 (by decide) ?_
  refine z_aald1 cx hw 2 rfl dX1_enter_17 ?_
  refine lv_aload_n hx hb dX1_enter_18 rfl (lv_at hl 0 rfl) ?_
  refine z_get cx hw 0 4 rfl rfl inlX1 (by decide) wd_53 rfl dX1_enter_19 ?_
  refine lv_iload_n hx hb dX1_enter_22 rfl (lv_at hl 2 rfl) ?_
  refine z_astN cx hw 4 rfl (mm) rfl (by omega) (by decide) dX1_enter_23 (fun H locs hw => ?_)
  have hw : ZW E A s [(h0, ob 1 [.ref qp, .ref qd, .ref ql, .ref qg, .int (nI mm)]), (qp, ia E 100 P), (qd, ra E d0 d1), (d0, ia E 24 (nA (updN D0 mm o))), (d1, ia E 24 (nA (updN D1 mm v))), (ql, ra E l0 l1), (l0, ia E 24 (nA L0)), (l1, ia E 24 (nA L1)), (qg, ra E g0 g1), (g0, ia E 24 (nA G0)), (g1, ia E 24 (nA G1))] H locs := hw
  refine lv_iconst (v := nI 0) hx hb dX1_enter_24 (by decide) ?_
  refine lv_istore_n (lv' := [(3, .int (nI 0)), (0, .ref h0), (1, .int (nI o)), (2, .int (nI v))]) hx hb dX1_enter_25 rfl hl (by decide) rfl (fun ls hl => ?_)
  refine lv_iload_n hx hb dX1_enter_26 rfl (lv_at hl 0 rfl) ?_
  refine lv_iconst (v := nI 2) hx hb dX1_enter_27 (by decide) ?_
  refine z_icmp_ge hx hb (by decide) (by decide) 61 dX1_enter_28 (by decide) (fun c => absurd c (by decide)) (fun _ => ?_)
  refine lv_aload_n hx hb dX1_enter_31 rfl (lv_at hl 1 rfl) ?_
  refine z_get cx hw 0 2 rfl rfl inlX1 (by decide) wd_51 rfl dX1_enter_32 ?_
  refine lv_iload_n hx hb dX1_enter_35 rfl (lv_at hl 0 rfl) ?_
  refine z_aald0 cx hw 5 rfl dX1_enter_36 ?_
  refine lv_aload_n hx hb dX1_enter_37 rfl (lv_at hl 1 rfl) ?_
  refine z_get cx hw 0 4 rfl rfl inlX1 (by decide) wd_53 rfl dX1_enter_38 ?_
  refine lv_iconst (v := nI 5) hx hb dX1_enter_41 (by decide) ?_
  refine z_astN cx hw 6 rfl (mm) rfl (by omega) (by decide) dX1_enter_42 (fun H locs hw => ?_)
  have hw : ZW E A s [(h0, ob 1 [.ref qp, .ref qd, .ref ql, .ref qg, .int (nI mm)]), (qp, ia E 100 P), (qd, ra E d0 d1), (d0, ia E 24 (nA (updN D0 mm o))), (d1, ia E 24 (nA (updN D1 mm v))), (ql, ra E l0 l1), (l0, ia E 24 (nA (updN L0 mm 5))), (l1, ia E 24 (nA L1)), (qg, ra E g0 g1), (g0, ia E 24 (nA G0)), (g1, ia E 24 (nA G1))] H locs := hw
  refine lv_aload_n hx hb dX1_enter_43 rfl (lv_at hl 1 rfl) ?_
  refine z_get cx hw 0 3 rfl rfl inlX1 (by decide) wd_52 rfl dX1_enter_44 ?_
  refine lv_iload_n hx hb dX1_enter_47 rfl (lv_at hl 0 rfl) ?_
  refine z_aald0 cx hw 8 rfl dX1_enter_48 ?_
  refine lv_aload_n hx hb dX1_enter_49 rfl (lv_at hl 1 rfl) ?_
  refine z_get cx hw 0 4 rfl rfl inlX1 (by decide) wd_53 rfl dX1_enter_50 ?_
  refine lv_iconst (v := nI 0) hx hb dX1_enter_53 (by decide) ?_
  refine z_astN cx hw 9 rfl (mm) rfl (by omega) (by decide) dX1_enter_54 (fun H locs hw => ?_)
  have hw : ZW E A s [(h0, ob 1 [.ref qp, .ref qd, .ref ql, .ref qg, .int (nI mm)]), (qp, ia E 100 P), (qd, ra E d0 d1), (d0, ia E 24 (nA (updN D0 mm o))), (d1, ia E 24 (nA (updN D1 mm v))), (ql, ra E l0 l1), (l0, ia E 24 (nA (updN L0 mm 5))), (l1, ia E 24 (nA L1)), (qg, ra E g0 g1), (g0, ia E 24 (nA (updN G0 mm 0))), (g1, ia E 24 (nA G1))] H locs := hw
  refine lv_iinc (v := nI 1) (lv' := [(3, .int (nI 1)), (0, .ref h0), (1, .int (nI o)), (2, .int (nI v))]) hx hb dX1_enter_55 hl (k := 0) rfl (nI_1 _) (by decide) rfl (fun ls hl => ?_)
  refine lv_goto (tgt := 26) hx hb dX1_enter_58 (by decide) ?_
  refine lv_iload_n hx hb dX1_enter_26 rfl (lv_at hl 0 rfl) ?_
  refine lv_iconst (v := nI 2) hx hb dX1_enter_27 (by decide) ?_
  refine z_icmp_ge hx hb (by decide) (by decide) 61 dX1_enter_28 (by decide) (fun c => absurd c (by decide)) (fun _ => ?_)
  refine lv_aload_n hx hb dX1_enter_31 rfl (lv_at hl 1 rfl) ?_
  refine z_get cx hw 0 2 rfl rfl inlX1 (by decide) wd_51 rfl dX1_enter_32 ?_
  refine lv_iload_n hx hb dX1_enter_35 rfl (lv_at hl 0 rfl) ?_
  refine z_aald1 cx hw 5 rfl dX1_enter_36 ?_
  refine lv_aload_n hx hb dX1_enter_37 rfl (lv_at hl 1 rfl) ?_
  refine z_get cx hw 0 4 rfl rfl inlX1 (by decide) wd_53 rfl dX1_enter_38 ?_
  refine lv_iconst (v := nI 5) hx hb dX1_enter_41 (by decide) ?_
  refine z_astN cx hw 7 rfl (mm) rfl (by omega) (by decide) dX1_enter_42 (fun H locs hw => ?_)
  have hw : ZW E A s [(h0, ob 1 [.ref qp, .ref qd, .ref ql, .ref qg, .int (nI mm)]), (qp, ia E 100 P), (qd, ra E d0 d1), (d0, ia E 24 (nA (updN D0 mm o))), (d1, ia E 24 (nA (updN D1 mm v))), (ql, ra E l0 l1), (l0, ia E 24 (nA (updN L0 mm 5))), (l1, ia E 24 (nA (updN L1 mm 5))), (qg, ra E g0 g1), (g0, ia E 24 (nA (updN G0 mm 0))), (g1, ia E 24 (nA G1))] H locs := hw
  refine lv_aload_n hx hb dX1_enter_43 rfl (lv_at hl 1 rfl) ?_
  refine z_get cx hw 0 3 rfl rfl inlX1 (by decide) wd_52 rfl dX1_enter_44 ?_
  refine lv_iload_n hx hb dX1_enter_47 rfl (lv_at hl 0 rfl) ?_
  refine z_aald1 cx hw 8 rfl dX1_enter_48 ?_
  refine lv_aload_n hx hb dX1_enter_49 rfl (lv_at hl 1 rfl) ?_
  refine z_get cx hw 0 4 rfl rfl inlX1 (by decide) wd_53 rfl dX1_enter_50 ?_
  refine lv_iconst (v := nI 0) hx hb dX1_enter_53 (by decide) ?_
  refine z_astN cx hw 10 rfl (mm) rfl (by omega) (by decide) dX1_enter_54 (fun H locs hw => ?_)
  have hw : ZW E A s [(h0, ob 1 [.ref qp, .ref qd, .ref ql, .ref qg, .int (nI mm)]), (qp, ia E 100 P), (qd, ra E d0 d1), (d0, ia E 24 (nA (updN D0 mm o))), (d1, ia E 24 (nA (updN D1 mm v))), (ql, ra E l0 l1), (l0, ia E 24 (nA (updN L0 mm 5))), (l1, ia E 24 (nA (updN L1 mm 5))), (qg, ra E g0 g1), (g0, ia E 24 (nA (updN G0 mm 0))), (g1, ia E 24 (nA (updN G1 mm 0)))] H locs := hw
  refine lv_iinc (v := nI 2) (lv' := [(3, .int (nI 2)), (0, .ref h0), (1, .int (nI o)), (2, .int (nI v))]) hx hb dX1_enter_55 hl (k := 0) rfl (nI_1 _) (by decide) rfl (fun ls hl => ?_)
  refine lv_goto (tgt := 26) hx hb dX1_enter_58 (by decide) ?_
  refine lv_iload_n hx hb dX1_enter_26 rfl (lv_at hl 0 rfl) ?_
  refine lv_iconst (v := nI 2) hx hb dX1_enter_27 (by decide) ?_
  refine z_icmp_ge hx hb (by decide) (by decide) 61 dX1_enter_28 (by decide) (fun _ => ?_) (fun c => absurd c (by decide))
  refine lv_aload_n hx hb dX1_enter_61 rfl (lv_at hl 1 rfl) ?_
  refine lv_dup hx hb dX1_enter_62 rfl ?_
  refine z_get cx hw 0 4 rfl rfl inlX1 (by decide) wd_53 rfl dX1_enter_63 ?_
  refine lv_iconst (v := nI 1) hx hb dX1_enter_66 (by decide) ?_
  refine z_iadd hx hb (mm + 1) rfl dX1_enter_67 ?_
  refine z_put cx hw 0 4 rfl rfl inlX1 tyX1_ok nmX1 (by decide) wd_53 rfl rfl rfl (Nat.le_of_ble_eq_true rfl) dX1_enter_68 (fun H locs hw => ?_)
  have hw : ZW E A s [(h0, ob 1 [.ref qp, .ref qd, .ref ql, .ref qg, .int (nI (mm + 1))]), (qp, ia E 100 P), (qd, ra E d0 d1), (d0, ia E 24 (nA (updN D0 mm o))), (d1, ia E 24 (nA (updN D1 mm v))), (ql, ra E l0 l1), (l0, ia E 24 (nA (updN L0 mm 5))), (l1, ia E 24 (nA (updN L1 mm 5))), (qg, ra E g0 g1), (g0, ia E 24 (nA (updN G0 mm 0))), (g1, ia E 24 (nA (updN G1 mm 0)))] H locs := hw
  exact ret () 71 ls H locs dX1_enter_71 (trivial) (hw)

def rmX1_spanWear0 : Room := { frames := 1, cells := 0, slots := 0, locals := 24 }
set_option maxHeartbeats 4000000 in
set_option maxRecDepth 100000 in
theorem c_X1_spanWear0 (l : Launch) (E : ZE) (h0 qp qd d0 d1 ql l0 l1 qg g0 g1 : Nat) (P : Nat → Int32) (D0 D1 L0 L1 G0 G1 : Nat → Nat) (mm : Nat) (k x : Nat) (hk : k < 24) (hB : Bd6 D0 D1 L0 L1 G0 G1) (hx1 : x < 10) : ZMv l yX1_spanWear cX1_spanWear 4 rmX1_spanWear0 E [.ref h0, .int (nI k), .int (nI 0), .int (nI x)] [(h0, ob 1 [.ref qp, .ref qd, .ref ql, .ref qg, .int (nI mm)]), (qp, ia E 100 P), (qd, ra E d0 d1), (d0, ia E 24 (nA D0)), (d1, ia E 24 (nA D1)), (ql, ra E l0 l1), (l0, ia E 24 (nA L0)), (l1, ia E 24 (nA L1)), (qg, ra E g0 g1), (g0, ia E 24 (nA G0)), (g1, ia E 24 (nA G1))] (S := Unit) (fun _ => True) (fun _ => [(h0, ob 1 [.ref qp, .ref qd, .ref ql, .ref qg, .int (nI mm)]), (qp, ia E 100 P), (qd, ra E d0 d1), (d0, ia E 24 (nA D0)), (d1, ia E 24 (nA D1)), (ql, ra E l0 l1), (l0, ia E 24 (nA (updN L0 k (min (L0 k) x)))), (l1, ia E 24 (nA L1)), (qg, ra E g0 g1), (g0, ia E 24 (nA (updN G0 k (max (G0 k) x)))), (g1, ia E 24 (nA G1))]) := by
  refine z_mv (by decide) (Nat.le_of_ble_eq_true rfl) ?_
  intro p e s m args below meth c A Q ls cx hin hw hl ret
  obtain ⟨hx, hb, hml, hown, hts, hK, hN, hA, hlk⟩ := id cx
  have hl : lv_has ls 4 [(0, .ref h0), (1, .int (nI k)), (2, .int (nI 0)), (3, .int (nI x))] := hl
  refine lv_aload_n hx hb dX1_spanWear_0 rfl (lv_at hl 0 rfl) ?_
  refine z_get cx hw 0 2 rfl rfl inlX1 (by decide) wd_51 rfl dX1_spanWear_1 ?_
  refine lv_iload_n hx hb dX1_spanWear_4 rfl (lv_at hl 2 rfl) ?_
  refine z_aald0 cx hw 5 rfl dX1_spanWear_5 ?_
  refine lv_iload_n hx hb dX1_spanWear_6 rfl (lv_at hl 1 rfl) ?_
  refine lv_aload_n hx hb dX1_spanWear_7 rfl (lv_at hl 0 rfl) ?_
  refine z_get cx hw 0 2 rfl rfl inlX1 (by decide) wd_51 rfl dX1_spanWear_8 ?_
  refine lv_iload_n hx hb dX1_spanWear_11 rfl (lv_at hl 2 rfl) ?_
  refine z_aald0 cx hw 5 rfl dX1_spanWear_12 ?_
  refine lv_iload_n hx hb dX1_spanWear_13 rfl (lv_at hl 1 rfl) ?_
  refine z_aldN cx hw 6 rfl (k) rfl (by omega) (by decide) dX1_spanWear_14 ?_
  refine lv_iload_n hx hb dX1_spanWear_15 rfl (lv_at hl 3 rfl) ?_
  have h_ := hB.2.2.1 k
  refine z_mmin cx (L0 k) x (by omega) (by omega) hl wd_272 (Nat.le_of_ble_eq_true rfl) (Nat.le_of_ble_eq_true rfl) (Nat.le_of_ble_eq_true rfl) (Nat.le_of_ble_eq_true rfl) dX1_spanWear_16 ?_
  refine z_astN cx hw 6 rfl (k) rfl (by omega) (by decide) dX1_spanWear_19 (fun H locs hw => ?_)
  have hw : ZW E A s [(h0, ob 1 [.ref qp, .ref qd, .ref ql, .ref qg, .int (nI mm)]), (qp, ia E 100 P), (qd, ra E d0 d1), (d0, ia E 24 (nA D0)), (d1, ia E 24 (nA D1)), (ql, ra E l0 l1), (l0, ia E 24 (nA (updN L0 k (min (L0 k) x)))), (l1, ia E 24 (nA L1)), (qg, ra E g0 g1), (g0, ia E 24 (nA G0)), (g1, ia E 24 (nA G1))] H locs := hw
  refine lv_aload_n hx hb dX1_spanWear_20 rfl (lv_at hl 0 rfl) ?_
  refine z_get cx hw 0 3 rfl rfl inlX1 (by decide) wd_52 rfl dX1_spanWear_21 ?_
  refine lv_iload_n hx hb dX1_spanWear_24 rfl (lv_at hl 2 rfl) ?_
  refine z_aald0 cx hw 8 rfl dX1_spanWear_25 ?_
  refine lv_iload_n hx hb dX1_spanWear_26 rfl (lv_at hl 1 rfl) ?_
  refine lv_aload_n hx hb dX1_spanWear_27 rfl (lv_at hl 0 rfl) ?_
  refine z_get cx hw 0 3 rfl rfl inlX1 (by decide) wd_52 rfl dX1_spanWear_28 ?_
  refine lv_iload_n hx hb dX1_spanWear_31 rfl (lv_at hl 2 rfl) ?_
  refine z_aald0 cx hw 8 rfl dX1_spanWear_32 ?_
  refine lv_iload_n hx hb dX1_spanWear_33 rfl (lv_at hl 1 rfl) ?_
  refine z_aldN cx hw 9 rfl (k) rfl (by omega) (by decide) dX1_spanWear_34 ?_
  refine lv_iload_n hx hb dX1_spanWear_35 rfl (lv_at hl 3 rfl) ?_
  have h2_ := hB.2.2.2.2.1 k
  refine z_mmax cx (G0 k) x (by omega) (by omega) hl wd_276 (Nat.le_of_ble_eq_true rfl) (Nat.le_of_ble_eq_true rfl) (Nat.le_of_ble_eq_true rfl) (Nat.le_of_ble_eq_true rfl) dX1_spanWear_36 ?_
  refine z_astN cx hw 9 rfl (k) rfl (by omega) (by decide) dX1_spanWear_39 (fun H locs hw => ?_)
  have hw : ZW E A s [(h0, ob 1 [.ref qp, .ref qd, .ref ql, .ref qg, .int (nI mm)]), (qp, ia E 100 P), (qd, ra E d0 d1), (d0, ia E 24 (nA D0)), (d1, ia E 24 (nA D1)), (ql, ra E l0 l1), (l0, ia E 24 (nA (updN L0 k (min (L0 k) x)))), (l1, ia E 24 (nA L1)), (qg, ra E g0 g1), (g0, ia E 24 (nA (updN G0 k (max (G0 k) x)))), (g1, ia E 24 (nA G1))] H locs := hw
  exact ret () 40 ls H locs dX1_spanWear_40 (trivial) (hw)

def rmX1_spanWear1 : Room := { frames := 1, cells := 0, slots := 0, locals := 24 }
set_option maxHeartbeats 4000000 in
set_option maxRecDepth 100000 in
theorem c_X1_spanWear1 (l : Launch) (E : ZE) (h0 qp qd d0 d1 ql l0 l1 qg g0 g1 : Nat) (P : Nat → Int32) (D0 D1 L0 L1 G0 G1 : Nat → Nat) (mm : Nat) (k x : Nat) (hk : k < 24) (hB : Bd6 D0 D1 L0 L1 G0 G1) (hx1 : x < 10) : ZMv l yX1_spanWear cX1_spanWear 4 rmX1_spanWear1 E [.ref h0, .int (nI k), .int (nI 1), .int (nI x)] [(h0, ob 1 [.ref qp, .ref qd, .ref ql, .ref qg, .int (nI mm)]), (qp, ia E 100 P), (qd, ra E d0 d1), (d0, ia E 24 (nA D0)), (d1, ia E 24 (nA D1)), (ql, ra E l0 l1), (l0, ia E 24 (nA L0)), (l1, ia E 24 (nA L1)), (qg, ra E g0 g1), (g0, ia E 24 (nA G0)), (g1, ia E 24 (nA G1))] (S := Unit) (fun _ => True) (fun _ => [(h0, ob 1 [.ref qp, .ref qd, .ref ql, .ref qg, .int (nI mm)]), (qp, ia E 100 P), (qd, ra E d0 d1), (d0, ia E 24 (nA D0)), (d1, ia E 24 (nA D1)), (ql, ra E l0 l1), (l0, ia E 24 (nA L0)), (l1, ia E 24 (nA (updN L1 k (min (L1 k) x)))), (qg, ra E g0 g1), (g0, ia E 24 (nA G0)), (g1, ia E 24 (nA (updN G1 k (max (G1 k) x))))]) := by
  refine z_mv (by decide) (Nat.le_of_ble_eq_true rfl) ?_
  intro p e s m args below meth c A Q ls cx hin hw hl ret
  obtain ⟨hx, hb, hml, hown, hts, hK, hN, hA, hlk⟩ := id cx
  have hl : lv_has ls 4 [(0, .ref h0), (1, .int (nI k)), (2, .int (nI 1)), (3, .int (nI x))] := hl
  refine lv_aload_n hx hb dX1_spanWear_0 rfl (lv_at hl 0 rfl) ?_
  refine z_get cx hw 0 2 rfl rfl inlX1 (by decide) wd_51 rfl dX1_spanWear_1 ?_
  refine lv_iload_n hx hb dX1_spanWear_4 rfl (lv_at hl 2 rfl) ?_
  refine z_aald1 cx hw 5 rfl dX1_spanWear_5 ?_
  refine lv_iload_n hx hb dX1_spanWear_6 rfl (lv_at hl 1 rfl) ?_
  refine lv_aload_n hx hb dX1_spanWear_7 rfl (lv_at hl 0 rfl) ?_
  refine z_get cx hw 0 2 rfl rfl inlX1 (by decide) wd_51 rfl dX1_spanWear_8 ?_
  refine lv_iload_n hx hb dX1_spanWear_11 rfl (lv_at hl 2 rfl) ?_
  refine z_aald1 cx hw 5 rfl dX1_spanWear_12 ?_
  refine lv_iload_n hx hb dX1_spanWear_13 rfl (lv_at hl 1 rfl) ?_
  refine z_aldN cx hw 7 rfl (k) rfl (by omega) (by decide) dX1_spanWear_14 ?_
  refine lv_iload_n hx hb dX1_spanWear_15 rfl (lv_at hl 3 rfl) ?_
  have h_ := hB.2.2.2.1 k
  refine z_mmin cx (L1 k) x (by omega) (by omega) hl wd_272 (Nat.le_of_ble_eq_true rfl) (Nat.le_of_ble_eq_true rfl) (Nat.le_of_ble_eq_true rfl) (Nat.le_of_ble_eq_true rfl) dX1_spanWear_16 ?_
  refine z_astN cx hw 7 rfl (k) rfl (by omega) (by decide) dX1_spanWear_19 (fun H locs hw => ?_)
  have hw : ZW E A s [(h0, ob 1 [.ref qp, .ref qd, .ref ql, .ref qg, .int (nI mm)]), (qp, ia E 100 P), (qd, ra E d0 d1), (d0, ia E 24 (nA D0)), (d1, ia E 24 (nA D1)), (ql, ra E l0 l1), (l0, ia E 24 (nA L0)), (l1, ia E 24 (nA (updN L1 k (min (L1 k) x)))), (qg, ra E g0 g1), (g0, ia E 24 (nA G0)), (g1, ia E 24 (nA G1))] H locs := hw
  refine lv_aload_n hx hb dX1_spanWear_20 rfl (lv_at hl 0 rfl) ?_
  refine z_get cx hw 0 3 rfl rfl inlX1 (by decide) wd_52 rfl dX1_spanWear_21 ?_
  refine lv_iload_n hx hb dX1_spanWear_24 rfl (lv_at hl 2 rfl) ?_
  refine z_aald1 cx hw 8 rfl dX1_spanWear_25 ?_
  refine lv_iload_n hx hb dX1_spanWear_26 rfl (lv_at hl 1 rfl) ?_
  refine lv_aload_n hx hb dX1_spanWear_27 rfl (lv_at hl 0 rfl) ?_
  refine z_get cx hw 0 3 rfl rfl inlX1 (by decide) wd_52 rfl dX1_spanWear_28 ?_
  refine lv_iload_n hx hb dX1_spanWear_31 rfl (lv_at hl 2 rfl) ?_
  refine z_aald1 cx hw 8 rfl dX1_spanWear_32 ?_
  refine lv_iload_n hx hb dX1_spanWear_33 rfl (lv_at hl 1 rfl) ?_
  refine z_aldN cx hw 10 rfl (k) rfl (by omega) (by decide) dX1_spanWear_34 ?_
  refine lv_iload_n hx hb dX1_spanWear_35 rfl (lv_at hl 3 rfl) ?_
  have h2_ := hB.2.2.2.2.2 k
  refine z_mmax cx (G1 k) x (by omega) (by omega) hl wd_276 (Nat.le_of_ble_eq_true rfl) (Nat.le_of_ble_eq_true rfl) (Nat.le_of_ble_eq_true rfl) (Nat.le_of_ble_eq_true rfl) dX1_spanWear_36 ?_
  refine z_astN cx hw 10 rfl (k) rfl (by omega) (by decide) dX1_spanWear_39 (fun H locs hw => ?_)
  have hw : ZW E A s [(h0, ob 1 [.ref qp, .ref qd, .ref ql, .ref qg, .int (nI mm)]), (qp, ia E 100 P), (qd, ra E d0 d1), (d0, ia E 24 (nA D0)), (d1, ia E 24 (nA D1)), (ql, ra E l0 l1), (l0, ia E 24 (nA L0)), (l1, ia E 24 (nA (updN L1 k (min (L1 k) x)))), (qg, ra E g0 g1), (g0, ia E 24 (nA G0)), (g1, ia E 24 (nA (updN G1 k (max (G1 k) x))))] H locs := hw
  exact ret () 40 ls H locs dX1_spanWear_40 (trivial) (hw)

def rmX1_isEarlierBy0 : Room := { frames := 0, cells := 0, slots := 0, locals := 0 }
set_option maxHeartbeats 4000000 in
set_option maxRecDepth 100000 in
theorem c_X1_isEarlierBy0 (l : Launch) (E : ZE) (h0 qp qd d0 d1 ql l0 l1 qg g0 g1 : Nat) (P : Nat → Int32) (D0 D1 L0 L1 G0 G1 : Nat → Nat) (mm : Nat) (a b : Nat) (ha : a < 24) (hb2 : b < 24) (hB : Bd6 D0 D1 L0 L1 G0 G1) : ZMi l yX1_isEarlierBy cX1_isEarlierBy 4 (some .boolean) rmX1_isEarlierBy0 E [.ref h0, .int (nI 0), .int (nI a), .int (nI b)] [(h0, ob 1 [.ref qp, .ref qd, .ref ql, .ref qg, .int (nI mm)]), (qp, ia E 100 P), (qd, ra E d0 d1), (d0, ia E 24 (nA D0)), (d1, ia E 24 (nA D1)), (ql, ra E l0 l1), (l0, ia E 24 (nA L0)), (l1, ia E 24 (nA L1)), (qg, ra E g0 g1), (g0, ia E 24 (nA G0)), (g1, ia E 24 (nA G1))] (S := Unit) (fun r _ => r = bI (erb D0 L0 G0 a b)) (fun _ => [(h0, ob 1 [.ref qp, .ref qd, .ref ql, .ref qg, .int (nI mm)]), (qp, ia E 100 P), (qd, ra E d0 d1), (d0, ia E 24 (nA D0)), (d1, ia E 24 (nA D1)), (ql, ra E l0 l1), (l0, ia E 24 (nA L0)), (l1, ia E 24 (nA L1)), (qg, ra E g0 g1), (g0, ia E 24 (nA G0)), (g1, ia E 24 (nA G1))]) := by
  refine z_mz (by decide) (Nat.le_of_ble_eq_true rfl) ?_
  intro p e s m args below meth c A Q ls cx hin hw hl ret
  obtain ⟨hx, hb, hml, hown, hts, hK, hN, hA, hlk⟩ := id cx
  have hl : lv_has ls 4 [(0, .ref h0), (1, .int (nI 0)), (2, .int (nI a)), (3, .int (nI b))] := hl
  have b0_ := hB.1 a
  have b1_ := hB.1 b
  have b2_ := hB.2.2.1 a
  have b3_ := hB.2.2.1 b
  have b4_ := hB.2.2.2.2.1 a
  have b5_ := hB.2.2.2.2.1 b
  refine lv_aload_n hx hb dX1_isEarlierBy_0 rfl (lv_at hl 0 rfl) ?_
  refine z_get cx hw 0 1 rfl rfl inlX1 (by decide) wd_50 rfl dX1_isEarlierBy_1 ?_
  refine lv_iload_n hx hb dX1_isEarlierBy_4 rfl (lv_at hl 1 rfl) ?_
  refine z_aald0 cx hw 2 rfl dX1_isEarlierBy_5 ?_
  refine lv_iload_n hx hb dX1_isEarlierBy_6 rfl (lv_at hl 2 rfl) ?_
  refine z_aldN cx hw 3 rfl (a) rfl (by omega) (by decide) dX1_isEarlierBy_7 ?_
  refine lv_aload_n hx hb dX1_isEarlierBy_8 rfl (lv_at hl 0 rfl) ?_
  refine z_get cx hw 0 1 rfl rfl inlX1 (by decide) wd_50 rfl dX1_isEarlierBy_9 ?_
  refine lv_iload_n hx hb dX1_isEarlierBy_12 rfl (lv_at hl 1 rfl) ?_
  refine z_aald0 cx hw 2 rfl dX1_isEarlierBy_13 ?_
  refine lv_iload_n hx hb dX1_isEarlierBy_14 rfl (lv_at hl 3 rfl) ?_
  refine z_aldN cx hw 3 rfl (b) rfl (by omega) (by decide) dX1_isEarlierBy_15 ?_
  refine z_icmp_ne hx hb (by omega) (by omega) 61 dX1_isEarlierBy_16 (by decide) (fun c_16 => ?_) (fun c_16 => ?_)
  · refine lv_iconst (v := nI 0) hx hb dX1_isEarlierBy_61 (by decide) ?_
    exact ret false () 62 ls s.heap [] dX1_isEarlierBy_62 (congrArg bI (by exact (decide_eq_false (fun q => c_16 q.1)).symm)) (hw)
  · refine lv_aload_n hx hb dX1_isEarlierBy_19 rfl (lv_at hl 0 rfl) ?_
    refine z_get cx hw 0 3 rfl rfl inlX1 (by decide) wd_52 rfl dX1_isEarlierBy_20 ?_
    refine lv_iload_n hx hb dX1_isEarlierBy_23 rfl (lv_at hl 1 rfl) ?_
    refine z_aald0 cx hw 8 rfl dX1_isEarlierBy_24 ?_
    refine lv_iload_n hx hb dX1_isEarlierBy_25 rfl (lv_at hl 2 rfl) ?_
    refine z_aldN cx hw 9 rfl (a) rfl (by omega) (by decide) dX1_isEarlierBy_26 ?_
    refine lv_aload_n hx hb dX1_isEarlierBy_27 rfl (lv_at hl 0 rfl) ?_
    refine z_get cx hw 0 2 rfl rfl inlX1 (by decide) wd_51 rfl dX1_isEarlierBy_28 ?_
    refine lv_iload_n hx hb dX1_isEarlierBy_31 rfl (lv_at hl 1 rfl) ?_
    refine z_aald0 cx hw 5 rfl dX1_isEarlierBy_32 ?_
    refine lv_iload_n hx hb dX1_isEarlierBy_33 rfl (lv_at hl 3 rfl) ?_
    refine z_aldN cx hw 6 rfl (b) rfl (by omega) (by decide) dX1_isEarlierBy_34 ?_
    refine z_icmp_gt hx hb (by omega) (by omega) 61 dX1_isEarlierBy_35 (by decide) (fun c_35 => ?_) (fun c_35 => ?_)
    · refine lv_iconst (v := nI 0) hx hb dX1_isEarlierBy_61 (by decide) ?_
      exact ret false () 62 ls s.heap [] dX1_isEarlierBy_62 (congrArg bI (by exact (decide_eq_false (fun q => absurd q.2.1 (Nat.not_le.mpr c_35))).symm)) (hw)
    · refine lv_aload_n hx hb dX1_isEarlierBy_38 rfl (lv_at hl 0 rfl) ?_
      refine z_get cx hw 0 2 rfl rfl inlX1 (by decide) wd_51 rfl dX1_isEarlierBy_39 ?_
      refine lv_iload_n hx hb dX1_isEarlierBy_42 rfl (lv_at hl 1 rfl) ?_
      refine z_aald0 cx hw 5 rfl dX1_isEarlierBy_43 ?_
      refine lv_iload_n hx hb dX1_isEarlierBy_44 rfl (lv_at hl 2 rfl) ?_
      refine z_aldN cx hw 6 rfl (a) rfl (by omega) (by decide) dX1_isEarlierBy_45 ?_
      refine lv_aload_n hx hb dX1_isEarlierBy_46 rfl (lv_at hl 0 rfl) ?_
      refine z_get cx hw 0 3 rfl rfl inlX1 (by decide) wd_52 rfl dX1_isEarlierBy_47 ?_
      refine lv_iload_n hx hb dX1_isEarlierBy_50 rfl (lv_at hl 1 rfl) ?_
      refine z_aald0 cx hw 8 rfl dX1_isEarlierBy_51 ?_
      refine lv_iload_n hx hb dX1_isEarlierBy_52 rfl (lv_at hl 3 rfl) ?_
      refine z_aldN cx hw 9 rfl (b) rfl (by omega) (by decide) dX1_isEarlierBy_53 ?_
      refine z_icmp_ge hx hb (by omega) (by omega) 61 dX1_isEarlierBy_54 (by decide) (fun c_54 => ?_) (fun c_54 => ?_)
      · refine lv_iconst (v := nI 0) hx hb dX1_isEarlierBy_61 (by decide) ?_
        exact ret false () 62 ls s.heap [] dX1_isEarlierBy_62 (congrArg bI (by exact (decide_eq_false (fun q => absurd q.2.2 (Nat.not_lt.mpr c_54))).symm)) (hw)
      · refine lv_iconst (v := nI 1) hx hb dX1_isEarlierBy_57 (by decide) ?_
        refine lv_goto (tgt := 62) hx hb dX1_isEarlierBy_58 (by decide) ?_
        exact ret true () 62 ls s.heap [] dX1_isEarlierBy_62 (congrArg bI (by exact (decide_eq_true ⟨c_16, c_35, c_54⟩).symm)) (hw)

def rmX1_isEarlierBy1 : Room := { frames := 0, cells := 0, slots := 0, locals := 0 }
set_option maxHeartbeats 4000000 in
set_option maxRecDepth 100000 in
theorem c_X1_isEarlierBy1 (l : Launch) (E : ZE) (h0 qp qd d0 d1 ql l0 l1 qg g0 g1 : Nat) (P : Nat → Int32) (D0 D1 L0 L1 G0 G1 : Nat → Nat) (mm : Nat) (a b : Nat) (ha : a < 24) (hb2 : b < 24) (hB : Bd6 D0 D1 L0 L1 G0 G1) : ZMi l yX1_isEarlierBy cX1_isEarlierBy 4 (some .boolean) rmX1_isEarlierBy1 E [.ref h0, .int (nI 1), .int (nI a), .int (nI b)] [(h0, ob 1 [.ref qp, .ref qd, .ref ql, .ref qg, .int (nI mm)]), (qp, ia E 100 P), (qd, ra E d0 d1), (d0, ia E 24 (nA D0)), (d1, ia E 24 (nA D1)), (ql, ra E l0 l1), (l0, ia E 24 (nA L0)), (l1, ia E 24 (nA L1)), (qg, ra E g0 g1), (g0, ia E 24 (nA G0)), (g1, ia E 24 (nA G1))] (S := Unit) (fun r _ => r = bI (erb D1 L1 G1 a b)) (fun _ => [(h0, ob 1 [.ref qp, .ref qd, .ref ql, .ref qg, .int (nI mm)]), (qp, ia E 100 P), (qd, ra E d0 d1), (d0, ia E 24 (nA D0)), (d1, ia E 24 (nA D1)), (ql, ra E l0 l1), (l0, ia E 24 (nA L0)), (l1, ia E 24 (nA L1)), (qg, ra E g0 g1), (g0, ia E 24 (nA G0)), (g1, ia E 24 (nA G1))]) := by
  refine z_mz (by decide) (Nat.le_of_ble_eq_true rfl) ?_
  intro p e s m args below meth c A Q ls cx hin hw hl ret
  obtain ⟨hx, hb, hml, hown, hts, hK, hN, hA, hlk⟩ := id cx
  have hl : lv_has ls 4 [(0, .ref h0), (1, .int (nI 1)), (2, .int (nI a)), (3, .int (nI b))] := hl
  have b0_ := hB.2.1 a
  have b1_ := hB.2.1 b
  have b2_ := hB.2.2.2.1 a
  have b3_ := hB.2.2.2.1 b
  have b4_ := hB.2.2.2.2.2 a
  have b5_ := hB.2.2.2.2.2 b
  refine lv_aload_n hx hb dX1_isEarlierBy_0 rfl (lv_at hl 0 rfl) ?_
  refine z_get cx hw 0 1 rfl rfl inlX1 (by decide) wd_50 rfl dX1_isEarlierBy_1 ?_
  refine lv_iload_n hx hb dX1_isEarlierBy_4 rfl (lv_at hl 1 rfl) ?_
  refine z_aald1 cx hw 2 rfl dX1_isEarlierBy_5 ?_
  refine lv_iload_n hx hb dX1_isEarlierBy_6 rfl (lv_at hl 2 rfl) ?_
  refine z_aldN cx hw 4 rfl (a) rfl (by omega) (by decide) dX1_isEarlierBy_7 ?_
  refine lv_aload_n hx hb dX1_isEarlierBy_8 rfl (lv_at hl 0 rfl) ?_
  refine z_get cx hw 0 1 rfl rfl inlX1 (by decide) wd_50 rfl dX1_isEarlierBy_9 ?_
  refine lv_iload_n hx hb dX1_isEarlierBy_12 rfl (lv_at hl 1 rfl) ?_
  refine z_aald1 cx hw 2 rfl dX1_isEarlierBy_13 ?_
  refine lv_iload_n hx hb dX1_isEarlierBy_14 rfl (lv_at hl 3 rfl) ?_
  refine z_aldN cx hw 4 rfl (b) rfl (by omega) (by decide) dX1_isEarlierBy_15 ?_
  refine z_icmp_ne hx hb (by omega) (by omega) 61 dX1_isEarlierBy_16 (by decide) (fun c_16 => ?_) (fun c_16 => ?_)
  · refine lv_iconst (v := nI 0) hx hb dX1_isEarlierBy_61 (by decide) ?_
    exact ret false () 62 ls s.heap [] dX1_isEarlierBy_62 (congrArg bI (by exact (decide_eq_false (fun q => c_16 q.1)).symm)) (hw)
  · refine lv_aload_n hx hb dX1_isEarlierBy_19 rfl (lv_at hl 0 rfl) ?_
    refine z_get cx hw 0 3 rfl rfl inlX1 (by decide) wd_52 rfl dX1_isEarlierBy_20 ?_
    refine lv_iload_n hx hb dX1_isEarlierBy_23 rfl (lv_at hl 1 rfl) ?_
    refine z_aald1 cx hw 8 rfl dX1_isEarlierBy_24 ?_
    refine lv_iload_n hx hb dX1_isEarlierBy_25 rfl (lv_at hl 2 rfl) ?_
    refine z_aldN cx hw 10 rfl (a) rfl (by omega) (by decide) dX1_isEarlierBy_26 ?_
    refine lv_aload_n hx hb dX1_isEarlierBy_27 rfl (lv_at hl 0 rfl) ?_
    refine z_get cx hw 0 2 rfl rfl inlX1 (by decide) wd_51 rfl dX1_isEarlierBy_28 ?_
    refine lv_iload_n hx hb dX1_isEarlierBy_31 rfl (lv_at hl 1 rfl) ?_
    refine z_aald1 cx hw 5 rfl dX1_isEarlierBy_32 ?_
    refine lv_iload_n hx hb dX1_isEarlierBy_33 rfl (lv_at hl 3 rfl) ?_
    refine z_aldN cx hw 7 rfl (b) rfl (by omega) (by decide) dX1_isEarlierBy_34 ?_
    refine z_icmp_gt hx hb (by omega) (by omega) 61 dX1_isEarlierBy_35 (by decide) (fun c_35 => ?_) (fun c_35 => ?_)
    · refine lv_iconst (v := nI 0) hx hb dX1_isEarlierBy_61 (by decide) ?_
      exact ret false () 62 ls s.heap [] dX1_isEarlierBy_62 (congrArg bI (by exact (decide_eq_false (fun q => absurd q.2.1 (Nat.not_le.mpr c_35))).symm)) (hw)
    · refine lv_aload_n hx hb dX1_isEarlierBy_38 rfl (lv_at hl 0 rfl) ?_
      refine z_get cx hw 0 2 rfl rfl inlX1 (by decide) wd_51 rfl dX1_isEarlierBy_39 ?_
      refine lv_iload_n hx hb dX1_isEarlierBy_42 rfl (lv_at hl 1 rfl) ?_
      refine z_aald1 cx hw 5 rfl dX1_isEarlierBy_43 ?_
      refine lv_iload_n hx hb dX1_isEarlierBy_44 rfl (lv_at hl 2 rfl) ?_
      refine z_aldN cx hw 7 rfl (a) rfl (by omega) (by decide) dX1_isEarlierBy_45 ?_
      refine lv_aload_n hx hb dX1_isEarlierBy_46 rfl (lv_at hl 0 rfl) ?_
      refine z_get cx hw 0 3 rfl rfl inlX1 (by decide) wd_52 rfl dX1_isEarlierBy_47 ?_
      refine lv_iload_n hx hb dX1_isEarlierBy_50 rfl (lv_at hl 1 rfl) ?_
      refine z_aald1 cx hw 8 rfl dX1_isEarlierBy_51 ?_
      refine lv_iload_n hx hb dX1_isEarlierBy_52 rfl (lv_at hl 3 rfl) ?_
      refine z_aldN cx hw 10 rfl (b) rfl (by omega) (by decide) dX1_isEarlierBy_53 ?_
      refine z_icmp_ge hx hb (by omega) (by omega) 61 dX1_isEarlierBy_54 (by decide) (fun c_54 => ?_) (fun c_54 => ?_)
      · refine lv_iconst (v := nI 0) hx hb dX1_isEarlierBy_61 (by decide) ?_
        exact ret false () 62 ls s.heap [] dX1_isEarlierBy_62 (congrArg bI (by exact (decide_eq_false (fun q => absurd q.2.2 (Nat.not_lt.mpr c_54))).symm)) (hw)
      · refine lv_iconst (v := nI 1) hx hb dX1_isEarlierBy_57 (by decide) ?_
        refine lv_goto (tgt := 62) hx hb dX1_isEarlierBy_58 (by decide) ?_
        exact ret true () 62 ls s.heap [] dX1_isEarlierBy_62 (congrArg bI (by exact (decide_eq_true ⟨c_16, c_35, c_54⟩).symm)) (hw)

def rmX1_isEarlier : Room := { frames := 1, cells := 0, slots := 0, locals := 23 }
set_option maxHeartbeats 4000000 in
set_option maxRecDepth 100000 in
theorem c_X1_isEarlier (l : Launch) (E : ZE) (h0 qp qd d0 d1 ql l0 l1 qg g0 g1 : Nat) (P : Nat → Int32) (D0 D1 L0 L1 G0 G1 : Nat → Nat) (mm : Nat) (a b : Nat) (ha : a < 24) (hb2 : b < 24) (hB : Bd6 D0 D1 L0 L1 G0 G1) : ZMi l yX1_isEarlier cX1_isEarlier 3 (some .boolean) rmX1_isEarlier E [.ref h0, .int (nI a), .int (nI b)] [(h0, ob 1 [.ref qp, .ref qd, .ref ql, .ref qg, .int (nI mm)]), (qp, ia E 100 P), (qd, ra E d0 d1), (d0, ia E 24 (nA D0)), (d1, ia E 24 (nA D1)), (ql, ra E l0 l1), (l0, ia E 24 (nA L0)), (l1, ia E 24 (nA L1)), (qg, ra E g0 g1), (g0, ia E 24 (nA G0)), (g1, ia E 24 (nA G1))] (S := Unit) (fun r _ => r = bI (erl D0 D1 L0 L1 G0 G1 a b)) (fun _ => [(h0, ob 1 [.ref qp, .ref qd, .ref ql, .ref qg, .int (nI mm)]), (qp, ia E 100 P), (qd, ra E d0 d1), (d0, ia E 24 (nA D0)), (d1, ia E 24 (nA D1)), (ql, ra E l0 l1), (l0, ia E 24 (nA L0)), (l1, ia E 24 (nA L1)), (qg, ra E g0 g1), (g0, ia E 24 (nA G0)), (g1, ia E 24 (nA G1))]) := by
  refine z_mz (by decide) (Nat.le_of_ble_eq_true rfl) ?_
  intro p e s m args below meth c A Q ls cx hin hw hl ret
  obtain ⟨hx, hb, hml, hown, hts, hK, hN, hA, hlk⟩ := id cx
  have hl : lv_has ls 3 [(0, .ref h0), (1, .int (nI a)), (2, .int (nI b))] := hl
  refine lv_aload_n hx hb dX1_isEarlier_0 rfl (lv_at hl 0 rfl) ?_
  refine lv_iconst (v := nI 0) hx hb dX1_isEarlier_1 (by decide) ?_
  refine lv_iload_n hx hb dX1_isEarlier_2 rfl (lv_at hl 1 rfl) ?_
  refine lv_iload_n hx hb dX1_isEarlier_3 rfl (lv_at hl 2 rfl) ?_
  refine z_ri0 (wr := []) cx hw [0, 1, 2, 3, 4, 5, 6, 7, 8, 9, 10] [] rfl rfl (by decide) (by decide) rfl rfl (z_runV (As := [.int (nI 0), .int (nI a), .int (nI b)]) (rest := []) cx hw rfl rfl [0, 1, 2, 3, 4, 5, 6, 7, 8, 9, 10] rfl rfl (c_X1_isEarlierBy0 l E h0 qp qd d0 d1 ql l0 l1 qg g0 g1 P D0 D1 L0 L1 G0 G1 mm a b (by omega) (by omega) (hB) s.heap.size) mf_X1_isEarlierBy wd_387 ⟨Nat.le_of_ble_eq_true rfl, Nat.le_of_ble_eq_true rfl⟩ hl (Nat.le_of_ble_eq_true rfl) dX1_isEarlier_4 ⟨Nat.le_of_ble_eq_true rfl, Nat.le_of_ble_eq_true rfl⟩) (fun r _ H locs hp hw => ?_)
  have hr_4 := hp
  have hr_4 : r = bI (erb D0 L0 G0 a b) := hr_4
  subst hr_4
  have hw : ZW E A s [(h0, ob 1 [.ref qp, .ref qd, .ref ql, .ref qg, .int (nI mm)]), (qp, ia E 100 P), (qd, ra E d0 d1), (d0, ia E 24 (nA D0)), (d1, ia E 24 (nA D1)), (ql, ra E l0 l1), (l0, ia E 24 (nA L0)), (l1, ia E 24 (nA L1)), (qg, ra E g0 g1), (g0, ia E 24 (nA G0)), (g1, ia E 24 (nA G1))] H locs := hw
  refine z_ifb_ne hx hb 20 dX1_isEarlier_7 (by decide) (fun c_7 => ?_) (fun c_7 => ?_)
  · refine lv_iconst (v := nI 1) hx hb dX1_isEarlier_20 (by decide) ?_
    refine lv_goto (tgt := 25) hx hb dX1_isEarlier_21 (by decide) ?_
    exact ret true () 25 ls H locs dX1_isEarlier_25 (congrArg bI (by simp [erl, c_7])) (hw)
  · refine lv_aload_n hx hb dX1_isEarlier_10 rfl (lv_at hl 0 rfl) ?_
    refine lv_iconst (v := nI 1) hx hb dX1_isEarlier_11 (by decide) ?_
    refine lv_iload_n hx hb dX1_isEarlier_12 rfl (lv_at hl 1 rfl) ?_
    refine lv_iload_n hx hb dX1_isEarlier_13 rfl (lv_at hl 2 rfl) ?_
    refine z_ri0 (wr := []) cx hw [0, 1, 2, 3, 4, 5, 6, 7, 8, 9, 10] [] rfl rfl (by decide) (by decide) rfl rfl (z_runV (As := [.int (nI 1), .int (nI a), .int (nI b)]) (rest := []) cx hw rfl rfl [0, 1, 2, 3, 4, 5, 6, 7, 8, 9, 10] rfl rfl (c_X1_isEarlierBy1 l E h0 qp qd d0 d1 ql l0 l1 qg g0 g1 P D0 D1 L0 L1 G0 G1 mm a b (by omega) (by omega) (hB) H.size) mf_X1_isEarlierBy wd_387 ⟨Nat.le_of_ble_eq_true rfl, Nat.le_of_ble_eq_true rfl⟩ hl (Nat.le_of_ble_eq_true rfl) dX1_isEarlier_14 ⟨Nat.le_of_ble_eq_true rfl, Nat.le_of_ble_eq_true rfl⟩) (fun r _ H locs hp hw => ?_)
    have hr_14 := hp
    have hr_14 : r = bI (erb D1 L1 G1 a b) := hr_14
    subst hr_14
    have hw : ZW E A s [(h0, ob 1 [.ref qp, .ref qd, .ref ql, .ref qg, .int (nI mm)]), (qp, ia E 100 P), (qd, ra E d0 d1), (d0, ia E 24 (nA D0)), (d1, ia E 24 (nA D1)), (ql, ra E l0 l1), (l0, ia E 24 (nA L0)), (l1, ia E 24 (nA L1)), (qg, ra E g0 g1), (g0, ia E 24 (nA G0)), (g1, ia E 24 (nA G1))] H locs := hw
    refine z_ifb_eq hx hb 24 dX1_isEarlier_17 (by decide) (fun c_17 => ?_) (fun c_17 => ?_)
    · refine lv_iconst (v := nI 0) hx hb dX1_isEarlier_24 (by decide) ?_
      exact ret false () 25 ls H locs dX1_isEarlier_25 (congrArg bI (by simp [erl, c_7, c_17])) (hw)
    · refine lv_iconst (v := nI 1) hx hb dX1_isEarlier_20 (by decide) ?_
      refine lv_goto (tgt := 25) hx hb dX1_isEarlier_21 (by decide) ?_
      exact ret true () 25 ls H locs dX1_isEarlier_25 (congrArg bI (by simp [erl, c_7, c_17])) (hw)

def rmX1_numberPairs : Room := { frames := 1, cells := 0, slots := 0, locals := 23 }
set_option maxHeartbeats 4000000 in
set_option maxRecDepth 100000 in
theorem c_X1_numberPairs (l : Launch) (E : ZE) (h0 qp qd d0 d1 ql l0 l1 qg g0 g1 : Nat) (D0 D1 L0 L1 G0 G1 : Nat → Nat) (mm : Nat) (b : Nat → Bool) (hr : rk b 100 ≤ 24) (hB : Bd6 D0 D1 L0 L1 G0 G1) : ZMv l yX1_numberPairs cX1_numberPairs 2 rmX1_numberPairs E [.ref h0] [(h0, ob 1 [.ref qp, .ref qd, .ref ql, .ref qg, .int (nI mm)]), (qp, ia E 100 (mkb b)), (qd, ra E d0 d1), (d0, ia E 24 (nA D0)), (d1, ia E 24 (nA D1)), (ql, ra E l0 l1), (l0, ia E 24 (nA L0)), (l1, ia E 24 (nA L1)), (qg, ra E g0 g1), (g0, ia E 24 (nA G0)), (g1, ia E 24 (nA G1))] (S := (Nat → Nat) × (Nat → Nat) × (Nat → Nat) × (Nat → Nat) × (Nat → Nat) × (Nat → Nat)) (fun u => CplD b 100 u.1 u.2.1 u.2.2.1 u.2.2.2.1 u.2.2.2.2.1 u.2.2.2.2.2 ∧ Bd6 u.1 u.2.1 u.2.2.1 u.2.2.2.1 u.2.2.2.2.1 u.2.2.2.2.2) (fun u => [(h0, ob 1 [.ref qp, .ref qd, .ref ql, .ref qg, .int (nI (rk b 100))]), (qp, ia E 100 (numb b 100)), (qd, ra E d0 d1), (d0, ia E 24 (nA u.1)), (d1, ia E 24 (nA u.2.1)), (ql, ra E l0 l1), (l0, ia E 24 (nA u.2.2.1)), (l1, ia E 24 (nA u.2.2.2.1)), (qg, ra E g0 g1), (g0, ia E 24 (nA u.2.2.2.2.1)), (g1, ia E 24 (nA u.2.2.2.2.2))]) := by
  refine z_mv (by decide) (Nat.le_of_ble_eq_true rfl) ?_
  intro p e s m args below meth c A Q ls cx hin hw hl ret
  obtain ⟨hx, hb, hml, hown, hts, hK, hN, hA, hlk⟩ := id cx
  have hl : lv_has ls 2 [(0, .ref h0)] := hl
  refine lv_aload_n hx hb dX1_numberPairs_0 rfl (lv_at hl 0 rfl) ?_
  refine lv_iconst (v := nI 0) hx hb dX1_numberPairs_1 (by decide) ?_
  refine z_put cx hw 0 4 rfl rfl inlX1 tyX1_ok nmX1 (by decide) wd_53 rfl rfl rfl (Nat.le_of_ble_eq_true rfl) dX1_numberPairs_2 (fun H locs hw => ?_)
  have hw : ZW E A s [(h0, ob 1 [.ref qp, .ref qd, .ref ql, .ref qg, .int (nI 0)]), (qp, ia E 100 (mkb b)), (qd, ra E d0 d1), (d0, ia E 24 (nA D0)), (d1, ia E 24 (nA D1)), (ql, ra E l0 l1), (l0, ia E 24 (nA L0)), (l1, ia E 24 (nA L1)), (qg, ra E g0 g1), (g0, ia E 24 (nA G0)), (g1, ia E 24 (nA G1))] H locs := hw
  refine lv_iconst (v := nI 0) hx hb dX1_numberPairs_5 (by decide) ?_
  refine lv_istore_n (lv' := [(1, .int (nI 0)), (0, .ref h0)]) hx hb dX1_numberPairs_6 rfl hl (by decide) rfl (fun ls hl => ?_)
  have loop_7 : ∀ (fuel : Nat) (k : Nat) (D0 : Nat → Nat) (D1 : Nat → Nat) (L0 : Nat → Nat) (L1 : Nat → Nat) (G0 : Nat → Nat) (G1 : Nat → Nat) (hk : k ≤ 100) (hI : CplD b k D0 D1 L0 L1 G0 G1) (hB : Bd6 D0 D1 L0 L1 G0 G1) (hm : 100 - k < fuel) (H : Heap) (locs : List Loc) (ls : Array Slot), ZW E A s [(h0, ob 1 [.ref qp, .ref qd, .ref ql, .ref qg, .int (nI (rk b k))]), (qp, ia E 100 (numb b k)), (qd, ra E d0 d1), (d0, ia E 24 (nA D0)), (d1, ia E 24 (nA D1)), (ql, ra E l0 l1), (l0, ia E 24 (nA L0)), (l1, ia E 24 (nA L1)), (qg, ra E g0 g1), (g0, ia E 24 (nA G0)), (g1, ia E 24 (nA G1))] H locs → lv_has ls 2 [(0, .ref h0), (1, .int (nI k))] → W p l e rmX1_numberPairs s m args below meth c H locs 0 0 Q (F0 m 7 ls []) := by
    intro fuel
    induction fuel with
    | zero => intro k D0 D1 L0 L1 G0 G1 hk hI hB hm; exact absurd hm (Nat.not_lt_zero _)
    | succ fuel ih_7 =>
      intro k D0 D1 L0 L1 G0 G1 hk hI hB hm H locs ls hw hl
      refine lv_iload_n hx hb dX1_numberPairs_7 rfl (lv_at hl 1 rfl) ?_
      refine lv_bipush (v := nI 100) hx hb dX1_numberPairs_8 (by decide) ?_
      refine z_icmp_ge hx hb (by omega) (by decide) 60 dX1_numberPairs_10 (by decide) (fun c_10 => ?_) (fun c_10 => ?_)
      · have e_ : k = 100 := by omega
        have hs_ : ∀ j, k ≤ j → j < 100 → b j = false := fun j h1 h2 => by omega
        have hm1_ := rk_mono b hk
        have hm2_ : rk b 100 ≤ rk b k := by
          rw [e_]; exact Nat.le_refl _
        have e_r60_0 : (rk b k) = (rk b 100) := by omega
        have e_r60_1 : (numb b k) = (numb b 100) := by rw [numb_stop hk hs_]
        exact ret (D0, D1, L0, L1, G0, G1) 60 ls H locs dX1_numberPairs_60 (⟨hI.stop hs_, hB⟩) ((hw).cast (zc (congrArg (fun z => ((h0, ob 1 [.ref qp, .ref qd, .ref ql, .ref qg, .int (nI z)]) : Nat × va_E)) e_r60_0) (zc (congrArg (fun z => ((qp, ia E 100 z) : Nat × va_E)) e_r60_1) rfl)))
      · have hrm_ := rk_mono b hk
        refine lv_aload_n hx hb dX1_numberPairs_13 rfl (lv_at hl 0 rfl) ?_
        refine z_get cx hw 0 4 rfl rfl inlX1 (by decide) wd_53 rfl dX1_numberPairs_14 ?_
        refine lv_bipush (v := nI 24) hx hb dX1_numberPairs_17 (by decide) ?_
        refine z_icmp_ge hx hb (by omega) (by decide) 60 dX1_numberPairs_19 (by decide) (fun c_19 => ?_) (fun c_19 => ?_)
        · have hs_ := rk_stop b (k := k) (n := 100) hk (by omega)
          have hm1_ := rk_mono b hk
          have hm2_ : rk b 100 ≤ rk b k := by
            omega
          have e_r60_0 : (rk b k) = (rk b 100) := by omega
          have e_r60_1 : (numb b k) = (numb b 100) := by rw [numb_stop hk hs_]
          exact ret (D0, D1, L0, L1, G0, G1) 60 ls H locs dX1_numberPairs_60 (⟨hI.stop hs_, hB⟩) ((hw).cast (zc (congrArg (fun z => ((h0, ob 1 [.ref qp, .ref qd, .ref ql, .ref qg, .int (nI z)]) : Nat × va_E)) e_r60_0) (zc (congrArg (fun z => ((qp, ia E 100 z) : Nat × va_E)) e_r60_1) rfl)))
        · refine lv_aload_n hx hb dX1_numberPairs_22 rfl (lv_at hl 0 rfl) ?_
          refine z_get cx hw 0 0 rfl rfl inlX1 (by decide) wd_48 rfl dX1_numberPairs_23 ?_
          refine lv_iload_n hx hb dX1_numberPairs_26 rfl (lv_at hl 1 rfl) ?_
          refine z_ald cx hw 1 rfl (k) rfl (by omega) (by decide) dX1_numberPairs_27 ?_
          refine lv_iconst (v := (-1)) hx hb dX1_numberPairs_28 (by decide) ?_
          refine lv_icmp_eq (tgt := 54) hx hb dX1_numberPairs_29 (by decide) (fun c_29 => ?_) (fun c_29 => ?_)
          · refine lv_iinc (v := nI (k + 1)) (lv' := [(1, .int (nI (k + 1))), (0, .ref h0)]) hx hb dX1_numberPairs_54 hl (k := 1) rfl (nI_1 _) (by decide) rfl (fun ls hl => ?_)
            refine lv_goto (tgt := 7) hx hb dX1_numberPairs_57 (by decide) ?_
            have e_b7_0 : (rk b k) = (rk b (k + 1)) := by simp [rk, numb_f c_29]
            have e_b7_1 : (numb b k) = (numb b (k + 1)) := by rw [numb_sf (numb_f c_29)]
            exact ih_7 (k + 1) D0 D1 L0 L1 G0 G1 (by omega) (hI.skip (numb_f c_29)) (hB) (by omega) _ _ ls ((hw).cast (zc (congrArg (fun z => ((h0, ob 1 [.ref qp, .ref qd, .ref ql, .ref qg, .int (nI z)]) : Nat × va_E)) e_b7_0) (zc (congrArg (fun z => ((qp, ia E 100 z) : Nat × va_E)) e_b7_1) rfl))) (lv_add (lv_add (lv_nil hl) (lv_at hl 0 rfl)) (lv_at hl 1 rfl))
          · have hbk := numb_t c_29
            refine lv_aload_n hx hb dX1_numberPairs_32 rfl (lv_at hl 0 rfl) ?_
            refine z_get cx hw 0 0 rfl rfl inlX1 (by decide) wd_48 rfl dX1_numberPairs_33 ?_
            refine lv_iload_n hx hb dX1_numberPairs_36 rfl (lv_at hl 1 rfl) ?_
            refine lv_aload_n hx hb dX1_numberPairs_37 rfl (lv_at hl 0 rfl) ?_
            refine z_get cx hw 0 4 rfl rfl inlX1 (by decide) wd_53 rfl dX1_numberPairs_38 ?_
            refine z_ast cx hw 1 rfl (k) rfl (by omega) (by decide) dX1_numberPairs_41 (fun H locs hw => ?_)
            have hw : ZW E A s [(h0, ob 1 [.ref qp, .ref qd, .ref ql, .ref qg, .int (nI (rk b k))]), (qp, ia E 100 (upd (numb b k) k (nI (rk b k)))), (qd, ra E d0 d1), (d0, ia E 24 (nA D0)), (d1, ia E 24 (nA D1)), (ql, ra E l0 l1), (l0, ia E 24 (nA L0)), (l1, ia E 24 (nA L1)), (qg, ra E g0 g1), (g0, ia E 24 (nA G0)), (g1, ia E 24 (nA G1))] H locs := hw
            refine lv_aload_n hx hb dX1_numberPairs_42 rfl (lv_at hl 0 rfl) ?_
            refine lv_iload_n hx hb dX1_numberPairs_43 rfl (lv_at hl 1 rfl) ?_
            refine lv_bipush (v := nI 10) hx hb dX1_numberPairs_44 (by decide) ?_
            refine z_idiv hx hb (k / 10) (by omega) (by omega) (by omega) rfl dX1_numberPairs_46 ?_
            refine lv_iload_n hx hb dX1_numberPairs_47 rfl (lv_at hl 1 rfl) ?_
            refine lv_bipush (v := nI 10) hx hb dX1_numberPairs_48 (by decide) ?_
            refine z_irem hx hb (k % 10) (by omega) (by omega) (by omega) rfl dX1_numberPairs_50 ?_
            refine z_rv0 (wr := []) cx hw [0, 1, 2, 3, 4, 5, 6, 7, 8, 9, 10] [] rfl rfl (by decide) (by decide) rfl rfl (z_runV (As := [.int (nI (k / 10)), .int (nI (k % 10))]) (rest := []) cx hw rfl rfl [0, 1, 2, 3, 4, 5, 6, 7, 8, 9, 10] rfl rfl (c_X1_enter l E h0 qp qd d0 d1 ql l0 l1 qg g0 g1 (upd (numb b k) k (nI (rk b k))) D0 D1 L0 L1 G0 G1 (rk b k) (k / 10) (k % 10) (by omega) H.size) mf_X1_enter wd_260 ⟨Nat.le_of_ble_eq_true rfl, Nat.le_of_ble_eq_true rfl⟩ hl (Nat.le_of_ble_eq_true rfl) dX1_numberPairs_51 ⟨Nat.le_of_ble_eq_true rfl, Nat.le_of_ble_eq_true rfl⟩) (fun _ H locs hp hw => ?_)
            have hw : ZW E A s [(h0, ob 1 [.ref qp, .ref qd, .ref ql, .ref qg, .int (nI ((rk b k) + 1))]), (qp, ia E 100 (upd (numb b k) k (nI (rk b k)))), (qd, ra E d0 d1), (d0, ia E 24 (nA (updN D0 (rk b k) (k / 10)))), (d1, ia E 24 (nA (updN D1 (rk b k) (k % 10)))), (ql, ra E l0 l1), (l0, ia E 24 (nA (updN L0 (rk b k) 5))), (l1, ia E 24 (nA (updN L1 (rk b k) 5))), (qg, ra E g0 g1), (g0, ia E 24 (nA (updN G0 (rk b k) 0))), (g1, ia E 24 (nA (updN G1 (rk b k) 0)))] H locs := hw
            refine lv_iinc (v := nI (k + 1)) (lv' := [(1, .int (nI (k + 1))), (0, .ref h0)]) hx hb dX1_numberPairs_54 hl (k := 1) rfl (nI_1 _) (by decide) rfl (fun ls hl => ?_)
            refine lv_goto (tgt := 7) hx hb dX1_numberPairs_57 (by decide) ?_
            have e_b7_0 : ((rk b k) + 1) = (rk b (k + 1)) := by simp [rk, hbk]
            have e_b7_1 : (upd (numb b k) k (nI (rk b k))) = (numb b (k + 1)) := by rw [numb_st hbk]
            exact ih_7 (k + 1) (updN D0 (rk b k) (k / 10)) (updN D1 (rk b k) (k % 10)) (updN L0 (rk b k) 5) (updN L1 (rk b k) 5) (updN G0 (rk b k) 0) (updN G1 (rk b k) 0) (by omega) (hI.push hbk) (⟨hB.1.upd (by omega), hB.2.1.upd (by omega), hB.2.2.1.upd (by omega), hB.2.2.2.1.upd (by omega), hB.2.2.2.2.1.upd (by omega), hB.2.2.2.2.2.upd (by omega)⟩) (by omega) _ _ ls ((hw).cast (zc (congrArg (fun z => ((h0, ob 1 [.ref qp, .ref qd, .ref ql, .ref qg, .int (nI z)]) : Nat × va_E)) e_b7_0) (zc (congrArg (fun z => ((qp, ia E 100 z) : Nat × va_E)) e_b7_1) rfl))) (lv_add (lv_add (lv_nil hl) (lv_at hl 0 rfl)) (lv_at hl 1 rfl))
  have e_i7_0 : 0 = (rk b 0) := by rfl
  have e_i7_1 : (mkb b) = (numb b 0) := by rw [numb_0]
  exact loop_7 _ 0 D0 D1 L0 L1 G0 G1 (by omega) (fun j hj => absurd hj (Nat.not_lt_zero _)) (hB) (Nat.lt_succ_self _) _ _ ls ((hw).cast (zc (congrArg (fun z => ((h0, ob 1 [.ref qp, .ref qd, .ref ql, .ref qg, .int (nI z)]) : Nat × va_E)) e_i7_0) (zc (congrArg (fun z => ((qp, ia E 100 z) : Nat × va_E)) e_i7_1) rfl))) (lv_add (lv_add (lv_nil hl) (lv_at hl 0 rfl)) (lv_at hl 1 rfl))

def rmX1_list : Room := { frames := 3, cells := 0, slots := 0, locals := 65 }
set_option maxHeartbeats 4000000 in
set_option maxRecDepth 100000 in
theorem c_X1_list (l : Launch) (E : ZE) (h0 qp qd d0 d1 ql l0 l1 qg g0 g1 : Nat) (P : Nat → Int32) (D0 D1 L0 L1 G0 G1 : Nat → Nat) (mm : Nat) (hS q : Nat) (F : Nat → Nat) (n : Nat) (hn : n ≤ 24) (hF : ∀ j, F j < 10) (hB : Bd6 D0 D1 L0 L1 G0 G1) : ZMv l yX1_list cX1_list 4 rmX1_list E [.ref h0, .ref hS] [(h0, ob 1 [.ref qp, .ref qd, .ref ql, .ref qg, .int (nI mm)]), (qp, ia E 100 P), (qd, ra E d0 d1), (d0, ia E 24 (nA D0)), (d1, ia E 24 (nA D1)), (ql, ra E l0 l1), (l0, ia E 24 (nA L0)), (l1, ia E 24 (nA L1)), (qg, ra E g0 g1), (g0, ia E 24 (nA G0)), (g1, ia E 24 (nA G1)), (hS, ob 4 [.ref q, .int (nI n)]), (q, ia E 96 (nA F))] (S := (Nat → Nat) × (Nat → Nat) × (Nat → Nat) × (Nat → Nat) × (Nat → Nat) × (Nat → Nat)) (fun u => Cpl F n n u.1 u.2.1 u.2.2.1 u.2.2.2.1 u.2.2.2.2.1 u.2.2.2.2.2 ∧ Bd6 u.1 u.2.1 u.2.2.1 u.2.2.2.1 u.2.2.2.2.1 u.2.2.2.2.2) (fun u => [(h0, ob 1 [.ref qp, .ref qd, .ref ql, .ref qg, .int (nI (rk (hasP F n) 100))]), (qp, ia E 100 (numb (hasP F n) 100)), (qd, ra E d0 d1), (d0, ia E 24 (nA u.1)), (d1, ia E 24 (nA u.2.1)), (ql, ra E l0 l1), (l0, ia E 24 (nA u.2.2.1)), (l1, ia E 24 (nA u.2.2.2.1)), (qg, ra E g0 g1), (g0, ia E 24 (nA u.2.2.2.2.1)), (g1, ia E 24 (nA u.2.2.2.2.2)), (hS, ob 4 [.ref q, .int (nI n)]), (q, ia E 96 (nA F))]) := by
  refine z_mv (by decide) (Nat.le_of_ble_eq_true rfl) ?_
  intro p e s m args below meth c A Q ls cx hin hw hl ret
  obtain ⟨hx, hb, hml, hown, hts, hK, hN, hA, hlk⟩ := id cx
  have hl : lv_has ls 4 [(0, .ref h0), (1, .ref hS)] := hl
  refine lv_aload_n hx hb dX1_list_0 rfl (lv_at hl 0 rfl) ?_
  refine lv_aload_n hx hb dX1_list_1 rfl (lv_at hl 1 rfl) ?_
  refine z_rv0 (wr := []) cx hw [0, 1, 2, 3, 4, 5, 6, 7, 8, 9, 10, 11, 12] [] rfl rfl (by decide) (by decide) rfl rfl (z_runV (As := [.ref hS]) (rest := []) cx hw rfl rfl [0, 1, 2, 3, 4, 5, 6, 7, 8, 9, 10, 11, 12] rfl rfl (c_X1_markPairs l E h0 qp qd d0 d1 ql l0 l1 qg g0 g1 P D0 D1 L0 L1 G0 G1 mm hS q F n (by omega) (hF) s.heap.size) mf_X1_markPairs wd_245 ⟨Nat.le_of_ble_eq_true rfl, Nat.le_of_ble_eq_true rfl⟩ hl (Nat.le_of_ble_eq_true rfl) dX1_list_2 ⟨Nat.le_of_ble_eq_true rfl, Nat.le_of_ble_eq_true rfl⟩) (fun _ H locs hp hw => ?_)
  have hw : ZW E A s [(h0, ob 1 [.ref qp, .ref qd, .ref ql, .ref qg, .int (nI mm)]), (qp, ia E 100 (mkb (hasP F n))), (qd, ra E d0 d1), (d0, ia E 24 (nA D0)), (d1, ia E 24 (nA D1)), (ql, ra E l0 l1), (l0, ia E 24 (nA L0)), (l1, ia E 24 (nA L1)), (qg, ra E g0 g1), (g0, ia E 24 (nA G0)), (g1, ia E 24 (nA G1)), (hS, ob 4 [.ref q, .int (nI n)]), (q, ia E 96 (nA F))] H locs := hw
  refine lv_aload_n hx hb dX1_list_5 rfl (lv_at hl 0 rfl) ?_
  refine z_rv0 (wr := [(hS, ob 4 [.ref q, .int (nI n)]), (q, ia E 96 (nA F))]) cx hw [0, 1, 2, 3, 4, 5, 6, 7, 8, 9, 10] [11, 12] rfl rfl (by decide) (by decide) rfl rfl (z_runV (As := []) (rest := []) cx hw rfl rfl [0, 1, 2, 3, 4, 5, 6, 7, 8, 9, 10] rfl rfl (c_X1_numberPairs l E h0 qp qd d0 d1 ql l0 l1 qg g0 g1 D0 D1 L0 L1 G0 G1 mm (hasP F n) (Nat.le_trans (rk_hasP F n 100) hn) (hB) H.size) mf_X1_numberPairs wd_256 ⟨Nat.le_of_ble_eq_true rfl, Nat.le_of_ble_eq_true rfl⟩ hl (Nat.le_of_ble_eq_true rfl) dX1_list_6 ⟨Nat.le_of_ble_eq_true rfl, Nat.le_of_ble_eq_true rfl⟩) (fun u H locs hp hw => ?_)
  obtain ⟨D0, D1, L0, L1, G0, G1⟩ := u
  have hp_6 : CplD (hasP F n) 100 D0 D1 L0 L1 G0 G1 ∧ Bd6 D0 D1 L0 L1 G0 G1 := hp
  have hw : ZW E A s [(hS, ob 4 [.ref q, .int (nI n)]), (q, ia E 96 (nA F)), (h0, ob 1 [.ref qp, .ref qd, .ref ql, .ref qg, .int (nI (rk (hasP F n) 100))]), (qp, ia E 100 (numb (hasP F n) 100)), (qd, ra E d0 d1), (d0, ia E 24 (nA D0)), (d1, ia E 24 (nA D1)), (ql, ra E l0 l1), (l0, ia E 24 (nA L0)), (l1, ia E 24 (nA L1)), (qg, ra E g0 g1), (g0, ia E 24 (nA G0)), (g1, ia E 24 (nA G1))] H locs := hw
  refine lv_iconst (v := nI 0) hx hb dX1_list_9 (by decide) ?_
  refine lv_istore_n (lv' := [(2, .int (nI 0)), (0, .ref h0), (1, .ref hS)]) hx hb dX1_list_10 rfl hl (by decide) rfl (fun ls hl => ?_)
  have loop_11 : ∀ (fuel : Nat) (k : Nat) (L0 : Nat → Nat) (L1 : Nat → Nat) (G0 : Nat → Nat) (G1 : Nat → Nat) (hk : k ≤ n) (hI : Cpl F n k D0 D1 L0 L1 G0 G1) (hB : Bd6 D0 D1 L0 L1 G0 G1) (hm : n - k < fuel) (H : Heap) (locs : List Loc) (ls : Array Slot), ZW E A s [(hS, ob 4 [.ref q, .int (nI n)]), (q, ia E 96 (nA F)), (h0, ob 1 [.ref qp, .ref qd, .ref ql, .ref qg, .int (nI (rk (hasP F n) 100))]), (qp, ia E 100 (numb (hasP F n) 100)), (qd, ra E d0 d1), (d0, ia E 24 (nA D0)), (d1, ia E 24 (nA D1)), (ql, ra E l0 l1), (l0, ia E 24 (nA L0)), (l1, ia E 24 (nA L1)), (qg, ra E g0 g1), (g0, ia E 24 (nA G0)), (g1, ia E 24 (nA G1))] H locs → lv_has ls 4 [(0, .ref h0), (1, .ref hS), (2, .int (nI k))] → W p l e rmX1_list s m args below meth c H locs 0 0 Q (F0 m 11 ls []) := by
    intro fuel
    induction fuel with
    | zero => intro k L0 L1 G0 G1 hk hI hB hm; exact absurd hm (Nat.not_lt_zero _)
    | succ fuel ih_11 =>
      intro k L0 L1 G0 G1 hk hI hB hm H locs ls hw hl
      refine lv_iload_n hx hb dX1_list_11 rfl (lv_at hl 2 rfl) ?_
      refine lv_aload_n hx hb dX1_list_12 rfl (lv_at hl 1 rfl) ?_
      refine z_getN cx hw 0 1 rfl rfl inlX4 (by decide) (nf_X1_37 hN) rfl dX1_list_13 ?_
      refine z_icmp_ge hx hb (by omega) (by omega) 68 dX1_list_16 (by decide) (fun c_16 => ?_) (fun c_16 => ?_)
      · have e_ : k = n := by omega
        exact ret (D0, D1, L0, L1, G0, G1) 68 ls H locs dX1_list_68 (⟨by rw [e_] at hI; exact hI, hB⟩) (hw.perm [2, 3, 4, 5, 6, 7, 8, 9, 10, 11, 12, 0, 1] rfl (by decide))
      · refine lv_aload_n hx hb dX1_list_19 rfl (lv_at hl 0 rfl) ?_
        refine z_get cx hw 2 0 rfl rfl inlX1 (by decide) wd_48 rfl dX1_list_20 ?_
        refine lv_aload_n hx hb dX1_list_23 rfl (lv_at hl 1 rfl) ?_
        refine lv_iload_n hx hb dX1_list_24 rfl (lv_at hl 2 rfl) ?_
        refine z_ri0 (wr := [(h0, ob 1 [.ref qp, .ref qd, .ref ql, .ref qg, .int (nI (rk (hasP F n) 100))]), (qp, ia E 100 (numb (hasP F n) 100)), (qd, ra E d0 d1), (d0, ia E 24 (nA D0)), (d1, ia E 24 (nA D1)), (ql, ra E l0 l1), (l0, ia E 24 (nA L0)), (l1, ia E 24 (nA L1)), (qg, ra E g0 g1), (g0, ia E 24 (nA G0)), (g1, ia E 24 (nA G1))]) cx hw [0, 1] [2, 3, 4, 5, 6, 7, 8, 9, 10, 11, 12] rfl rfl (by decide) (by decide) rfl rfl (z_runS (As := [.ref hS, .int (nI k)]) (rest := [.ref qp]) cx hw [0, 1] rfl rfl (c_X1_pairOf l E hS q F n k (by omega) H.size) mf_X1_pairOf wd_253 ⟨Nat.le_of_ble_eq_true rfl, Nat.le_of_ble_eq_true rfl⟩ hl (Nat.le_of_ble_eq_true rfl) dX1_list_25 ⟨Nat.le_of_ble_eq_true rfl, Nat.le_of_ble_eq_true rfl⟩) (fun r _ H locs hp hw => ?_)
        have hr_25 := hp
        have hr_25 : r = nI (pr F k) := hr_25
        subst hr_25
        have hw : ZW E A s [(h0, ob 1 [.ref qp, .ref qd, .ref ql, .ref qg, .int (nI (rk (hasP F n) 100))]), (qp, ia E 100 (numb (hasP F n) 100)), (qd, ra E d0 d1), (d0, ia E 24 (nA D0)), (d1, ia E 24 (nA D1)), (ql, ra E l0 l1), (l0, ia E 24 (nA L0)), (l1, ia E 24 (nA L1)), (qg, ra E g0 g1), (g0, ia E 24 (nA G0)), (g1, ia E 24 (nA G1)), (hS, ob 4 [.ref q, .int (nI n)]), (q, ia E 96 (nA F))] H locs := hw
        have hp0_ := pr_lt hF k
        refine z_ald cx hw 1 rfl (pr F k) rfl (by omega) (by decide) dX1_list_28 ?_
        have hp0_ := pr_lt hF k
        have hb0_ : hasP F n (pr F k) = true := (hasP_iff F n _).mpr ⟨k, c_16, rfl⟩
        have hlt_ := rk_lt (hasP F n) hp0_ hb0_
        have hle_ := rk_hasP F n 100
        rw [show numb (hasP F n) 100 (pr F k) = nI (rk (hasP F n) (pr F k)) from by simp only [numb]; rw [if_pos hb0_, if_pos hp0_]]
        refine lv_istore_n (lv' := [(3, .int (nI (rk (hasP F n) (pr F k)))), (0, .ref h0), (1, .ref hS), (2, .int (nI k))]) hx hb dX1_list_29 rfl hl (by decide) rfl (fun ls hl => ?_)
        refine lv_aload_n hx hb dX1_list_30 rfl (lv_at hl 1 rfl) ?_
        refine lv_iload_n hx hb dX1_list_31 rfl (lv_at hl 0 rfl) ?_
        refine z_ri0 (wr := [(hS, ob 4 [.ref q, .int (nI n)]), (q, ia E 96 (nA F))]) cx hw [0, 1, 2, 3, 4, 5, 6, 7, 8, 9, 10] [11, 12] rfl rfl (by decide) (by decide) rfl rfl (z_runV (As := [.int (nI (rk (hasP F n) (pr F k)))]) (rest := []) cx hw rfl rfl [0, 1, 2, 3, 4, 5, 6, 7, 8, 9, 10] rfl rfl (c_X1_has l E h0 qp qd d0 d1 ql l0 l1 qg g0 g1 (numb (hasP F n) 100) D0 D1 L0 L1 G0 G1 (rk (hasP F n) 100) (nI (rk (hasP F n) (pr F k))) (by have := rk_hasP F n 100; omega) H.size) mf_X1_has wd_264 ⟨Nat.le_of_ble_eq_true rfl, Nat.le_of_ble_eq_true rfl⟩ hl (Nat.le_of_ble_eq_true rfl) dX1_list_32 ⟨Nat.le_of_ble_eq_true rfl, Nat.le_of_ble_eq_true rfl⟩) (fun r _ H locs hp hw => ?_)
        have hr_32 := hp
        have hr_32 : r = bI (inR (nI (rk (hasP F n) (pr F k))) (rk (hasP F n) 100)) := hr_32
        subst hr_32
        have hw : ZW E A s [(hS, ob 4 [.ref q, .int (nI n)]), (q, ia E 96 (nA F)), (h0, ob 1 [.ref qp, .ref qd, .ref ql, .ref qg, .int (nI (rk (hasP F n) 100))]), (qp, ia E 100 (numb (hasP F n) 100)), (qd, ra E d0 d1), (d0, ia E 24 (nA D0)), (d1, ia E 24 (nA D1)), (ql, ra E l0 l1), (l0, ia E 24 (nA L0)), (l1, ia E 24 (nA L1)), (qg, ra E g0 g1), (g0, ia E 24 (nA G0)), (g1, ia E 24 (nA G1))] H locs := hw
        refine z_ifb_eq hx hb 62 dX1_list_35 (by decide) (fun c_35 => False.elim (by rw [inR_nI (by omega)] at c_35; exact absurd c_35 (by simp [hlt_]))) (fun c_35 => ?_)
        refine lv_aload_n hx hb dX1_list_38 rfl (lv_at hl 1 rfl) ?_
        refine lv_iload_n hx hb dX1_list_39 rfl (lv_at hl 0 rfl) ?_
        refine lv_iconst (v := nI 0) hx hb dX1_list_40 (by decide) ?_
        refine lv_aload_n hx hb dX1_list_41 rfl (lv_at hl 2 rfl) ?_
        refine lv_iload_n hx hb dX1_list_42 rfl (lv_at hl 3 rfl) ?_
        refine lv_iconst (v := nI 0) hx hb dX1_list_43 (by decide) ?_
        refine z_ri0 (wr := [(h0, ob 1 [.ref qp, .ref qd, .ref ql, .ref qg, .int (nI (rk (hasP F n) 100))]), (qp, ia E 100 (numb (hasP F n) 100)), (qd, ra E d0 d1), (d0, ia E 24 (nA D0)), (d1, ia E 24 (nA D1)), (ql, ra E l0 l1), (l0, ia E 24 (nA L0)), (l1, ia E 24 (nA L1)), (qg, ra E g0 g1), (g0, ia E 24 (nA G0)), (g1, ia E 24 (nA G1))]) cx hw [0, 1] [2, 3, 4, 5, 6, 7, 8, 9, 10, 11, 12] rfl rfl (by decide) (by decide) rfl rfl (z_runVN (As := [.int (nI k), .int (nI 0)]) (rest := [.int (nI 0), .int (nI (rk (hasP F n) (pr F k))), .ref h0]) cx hw rfl rfl [0, 1] rfl rfl (c_X4_wear l E hS q F n k 0 (by omega) (by omega) H.size) mf_X4_wear (nm_X1_48 hN) ⟨Nat.le_of_ble_eq_true rfl, Nat.le_of_ble_eq_true rfl⟩ hl (Nat.le_of_ble_eq_true rfl) dX1_list_44 ⟨Nat.le_of_ble_eq_true rfl, Nat.le_of_ble_eq_true rfl⟩) (fun r _ H locs hp hw => ?_)
        have hr_44 := hp
        have hr_44 : r = nI (F (4 * k + 2 + 0)) := hr_44
        subst hr_44
        have hw : ZW E A s [(h0, ob 1 [.ref qp, .ref qd, .ref ql, .ref qg, .int (nI (rk (hasP F n) 100))]), (qp, ia E 100 (numb (hasP F n) 100)), (qd, ra E d0 d1), (d0, ia E 24 (nA D0)), (d1, ia E 24 (nA D1)), (ql, ra E l0 l1), (l0, ia E 24 (nA L0)), (l1, ia E 24 (nA L1)), (qg, ra E g0 g1), (g0, ia E 24 (nA G0)), (g1, ia E 24 (nA G1)), (hS, ob 4 [.ref q, .int (nI n)]), (q, ia E 96 (nA F))] H locs := hw
        refine z_rv0 (wr := [(hS, ob 4 [.ref q, .int (nI n)]), (q, ia E 96 (nA F))]) cx hw [0, 1, 2, 3, 4, 5, 6, 7, 8, 9, 10] [11, 12] rfl rfl (by decide) (by decide) rfl rfl (z_runV (As := [.int (nI (rk (hasP F n) (pr F k))), .int (nI 0), .int (nI (F (4 * k + 2 + 0)))]) (rest := []) cx hw rfl rfl [0, 1, 2, 3, 4, 5, 6, 7, 8, 9, 10] rfl rfl (c_X1_spanWear0 l E h0 qp qd d0 d1 ql l0 l1 qg g0 g1 (numb (hasP F n) 100) D0 D1 L0 L1 G0 G1 (rk (hasP F n) 100) (rk (hasP F n) (pr F k)) (F (4 * k + 2 + 0)) (by omega) (hB) (hF _) H.size) mf_X1_spanWear wd_268 ⟨Nat.le_of_ble_eq_true rfl, Nat.le_of_ble_eq_true rfl⟩ hl (Nat.le_of_ble_eq_true rfl) dX1_list_47 ⟨Nat.le_of_ble_eq_true rfl, Nat.le_of_ble_eq_true rfl⟩) (fun _ H locs hp hw => ?_)
        have hw : ZW E A s [(hS, ob 4 [.ref q, .int (nI n)]), (q, ia E 96 (nA F)), (h0, ob 1 [.ref qp, .ref qd, .ref ql, .ref qg, .int (nI (rk (hasP F n) 100))]), (qp, ia E 100 (numb (hasP F n) 100)), (qd, ra E d0 d1), (d0, ia E 24 (nA D0)), (d1, ia E 24 (nA D1)), (ql, ra E l0 l1), (l0, ia E 24 (nA (updN L0 (rk (hasP F n) (pr F k)) (min (L0 (rk (hasP F n) (pr F k))) (F (4 * k + 2 + 0)))))), (l1, ia E 24 (nA L1)), (qg, ra E g0 g1), (g0, ia E 24 (nA (updN G0 (rk (hasP F n) (pr F k)) (max (G0 (rk (hasP F n) (pr F k))) (F (4 * k + 2 + 0)))))), (g1, ia E 24 (nA G1))] H locs := hw
        refine lv_aload_n hx hb dX1_list_50 rfl (lv_at hl 1 rfl) ?_
        refine lv_iload_n hx hb dX1_list_51 rfl (lv_at hl 0 rfl) ?_
        refine lv_iconst (v := nI 1) hx hb dX1_list_52 (by decide) ?_
        refine lv_aload_n hx hb dX1_list_53 rfl (lv_at hl 2 rfl) ?_
        refine lv_iload_n hx hb dX1_list_54 rfl (lv_at hl 3 rfl) ?_
        refine lv_iconst (v := nI 1) hx hb dX1_list_55 (by decide) ?_
        refine z_ri0 (wr := [(h0, ob 1 [.ref qp, .ref qd, .ref ql, .ref qg, .int (nI (rk (hasP F n) 100))]), (qp, ia E 100 (numb (hasP F n) 100)), (qd, ra E d0 d1), (d0, ia E 24 (nA D0)), (d1, ia E 24 (nA D1)), (ql, ra E l0 l1), (l0, ia E 24 (nA (updN L0 (rk (hasP F n) (pr F k)) (min (L0 (rk (hasP F n) (pr F k))) (F (4 * k + 2 + 0)))))), (l1, ia E 24 (nA L1)), (qg, ra E g0 g1), (g0, ia E 24 (nA (updN G0 (rk (hasP F n) (pr F k)) (max (G0 (rk (hasP F n) (pr F k))) (F (4 * k + 2 + 0)))))), (g1, ia E 24 (nA G1))]) cx hw [0, 1] [2, 3, 4, 5, 6, 7, 8, 9, 10, 11, 12] rfl rfl (by decide) (by decide) rfl rfl (z_runVN (As := [.int (nI k), .int (nI 1)]) (rest := [.int (nI 1), .int (nI (rk (hasP F n) (pr F k))), .ref h0]) cx hw rfl rfl [0, 1] rfl rfl (c_X4_wear l E hS q F n k 1 (by omega) (by omega) H.size) mf_X4_wear (nm_X1_48 hN) ⟨Nat.le_of_ble_eq_true rfl, Nat.le_of_ble_eq_true rfl⟩ hl (Nat.le_of_ble_eq_true rfl) dX1_list_56 ⟨Nat.le_of_ble_eq_true rfl, Nat.le_of_ble_eq_true rfl⟩) (fun r _ H locs hp hw => ?_)
        have hr_56 := hp
        have hr_56 : r = nI (F (4 * k + 2 + 1)) := hr_56
        subst hr_56
        have hw : ZW E A s [(h0, ob 1 [.ref qp, .ref qd, .ref ql, .ref qg, .int (nI (rk (hasP F n) 100))]), (qp, ia E 100 (numb (hasP F n) 100)), (qd, ra E d0 d1), (d0, ia E 24 (nA D0)), (d1, ia E 24 (nA D1)), (ql, ra E l0 l1), (l0, ia E 24 (nA (updN L0 (rk (hasP F n) (pr F k)) (min (L0 (rk (hasP F n) (pr F k))) (F (4 * k + 2 + 0)))))), (l1, ia E 24 (nA L1)), (qg, ra E g0 g1), (g0, ia E 24 (nA (updN G0 (rk (hasP F n) (pr F k)) (max (G0 (rk (hasP F n) (pr F k))) (F (4 * k + 2 + 0)))))), (g1, ia E 24 (nA G1)), (hS, ob 4 [.ref q, .int (nI n)]), (q, ia E 96 (nA F))] H locs := hw
        refine z_rv0 (wr := [(hS, ob 4 [.ref q, .int (nI n)]), (q, ia E 96 (nA F))]) cx hw [0, 1, 2, 3, 4, 5, 6, 7, 8, 9, 10] [11, 12] rfl rfl (by decide) (by decide) rfl rfl (z_runV (As := [.int (nI (rk (hasP F n) (pr F k))), .int (nI 1), .int (nI (F (4 * k + 2 + 1)))]) (rest := []) cx hw rfl rfl [0, 1, 2, 3, 4, 5, 6, 7, 8, 9, 10] rfl rfl (c_X1_spanWear1 l E h0 qp qd d0 d1 ql l0 l1 qg g0 g1 (numb (hasP F n) 100) D0 D1 (updN L0 (rk (hasP F n) (pr F k)) (min (L0 (rk (hasP F n) (pr F k))) (F (4 * k + 2 + 0)))) L1 (updN G0 (rk (hasP F n) (pr F k)) (max (G0 (rk (hasP F n) (pr F k))) (F (4 * k + 2 + 0)))) G1 (rk (hasP F n) 100) (rk (hasP F n) (pr F k)) (F (4 * k + 2 + 1)) (by omega) (⟨hB.1, hB.2.1, hB.2.2.1.upd (by have := hF (4 * k + 2 + 0); omega), hB.2.2.2.1, hB.2.2.2.2.1.upd (by have h1 := hB.2.2.2.2.1 (rk (hasP F n) (pr F k)); have h2 := hF (4 * k + 2 + 0); omega), hB.2.2.2.2.2⟩) (hF _) H.size) mf_X1_spanWear wd_268 ⟨Nat.le_of_ble_eq_true rfl, Nat.le_of_ble_eq_true rfl⟩ hl (Nat.le_of_ble_eq_true rfl) dX1_list_59 ⟨Nat.le_of_ble_eq_true rfl, Nat.le_of_ble_eq_true rfl⟩) (fun _ H locs hp hw => ?_)
        have hw : ZW E A s [(hS, ob 4 [.ref q, .int (nI n)]), (q, ia E 96 (nA F)), (h0, ob 1 [.ref qp, .ref qd, .ref ql, .ref qg, .int (nI (rk (hasP F n) 100))]), (qp, ia E 100 (numb (hasP F n) 100)), (qd, ra E d0 d1), (d0, ia E 24 (nA D0)), (d1, ia E 24 (nA D1)), (ql, ra E l0 l1), (l0, ia E 24 (nA (updN L0 (rk (hasP F n) (pr F k)) (min (L0 (rk (hasP F n) (pr F k))) (F (4 * k + 2 + 0)))))), (l1, ia E 24 (nA (updN L1 (rk (hasP F n) (pr F k)) (min (L1 (rk (hasP F n) (pr F k))) (F (4 * k + 2 + 1)))))), (qg, ra E g0 g1), (g0, ia E 24 (nA (updN G0 (rk (hasP F n) (pr F k)) (max (G0 (rk (hasP F n) (pr F k))) (F (4 * k + 2 + 0)))))), (g1, ia E 24 (nA (updN G1 (rk (hasP F n) (pr F k)) (max (G1 (rk (hasP F n) (pr F k))) (F (4 * k + 2 + 1))))))] H locs := hw
        refine lv_iinc (v := nI (k + 1)) (lv' := [(2, .int (nI (k + 1))), (3, .int (nI (rk (hasP F n) (pr F k)))), (0, .ref h0), (1, .ref hS)]) hx hb dX1_list_62 hl (k := 3) rfl (nI_1 _) (by decide) rfl (fun ls hl => ?_)
        refine lv_goto (tgt := 11) hx hb dX1_list_65 (by decide) ?_
        exact ih_11 (k + 1) (updN L0 (rk (hasP F n) (pr F k)) (min (L0 (rk (hasP F n) (pr F k))) (F (4 * k + 2 + 0)))) (updN L1 (rk (hasP F n) (pr F k)) (min (L1 (rk (hasP F n) (pr F k))) (F (4 * k + 2 + 1)))) (updN G0 (rk (hasP F n) (pr F k)) (max (G0 (rk (hasP F n) (pr F k))) (F (4 * k + 2 + 0)))) (updN G1 (rk (hasP F n) (pr F k)) (max (G1 (rk (hasP F n) (pr F k))) (F (4 * k + 2 + 1)))) (by omega) (hI.step hF c_16) (⟨hB.1, hB.2.1, hB.2.2.1.upd (by have := hF (4 * k + 2 + 0); omega), hB.2.2.2.1.upd (by have := hF (4 * k + 2 + 1); omega), hB.2.2.2.2.1.upd (by have h1 := hB.2.2.2.2.1 (rk (hasP F n) (pr F k)); have h2 := hF (4 * k + 2 + 0); omega), hB.2.2.2.2.2.upd (by have h1 := hB.2.2.2.2.2 (rk (hasP F n) (pr F k)); have h2 := hF (4 * k + 2 + 1); omega)⟩) (by omega) _ _ ls (hw) (lv_add (lv_add (lv_add (lv_nil hl) (lv_at hl 0 rfl)) (lv_at hl 3 rfl)) (lv_at hl 2 rfl))
  exact loop_11 _ 0 L0 L1 G0 G1 (by omega) (fun j hj hb => hp_6.1 j hj hb) (hp_6.2) (Nat.lt_succ_self _) _ _ ls (hw) (lv_add (lv_add (lv_add (lv_nil hl) (lv_at hl 0 rfl)) (lv_at hl 2 rfl)) (lv_at hl 1 rfl))

