/-! ===== the graphs of both ===== -/
theorem jn_iff {f : Nat → Int32} {v w x y : Nat} : jn f v w x = jn f v w y ↔ (f x = f y ∨ ((f x = f v ∨ f x = f w) ∧ (f y = f v ∨ f y = f w))) := by
  simp only [jn]
  by_cases h1 : f x = f w
  · by_cases h2 : f y = f w
    · rw [if_pos h1, if_pos h2]
      exact ⟨fun _ => Or.inl (h1.trans h2.symm), fun _ => rfl⟩
    · rw [if_pos h1, if_neg h2]
      constructor
      · intro q; exact Or.inr ⟨Or.inr h1, Or.inl q.symm⟩
      · rintro (q | ⟨-, q | q⟩)
        · exact absurd (q.symm.trans h1) h2
        · exact q.symm
        · exact absurd q h2
  · by_cases h2 : f y = f w
    · rw [if_neg h1, if_pos h2]
      constructor
      · intro q; exact Or.inr ⟨Or.inl q, Or.inr h2⟩
      · rintro (q | ⟨q | q, -⟩)
        · exact absurd (q.trans h2) h1
        · exact q
        · exact absurd q h1
    · rw [if_neg h1, if_neg h2]
      constructor
      · intro q; exact Or.inl q
      · rintro (q | ⟨q1 | q1, q2 | q2⟩)
        · exact q
        · exact q1.trans q2.symm
        · exact absurd q2 h2
        · exact absurd q1 h1
        · exact absurd q1 h1
/-- the reference's join -/
def jN (g : Nat → Nat) (a b : Nat) : Nat → Nat := fun x => if g x = g a then g b else g x
theorem jN_iff {g : Nat → Nat} {a b x y : Nat} : jN g a b x = jN g a b y ↔ (g x = g y ∨ ((g x = g a ∨ g x = g b) ∧ (g y = g a ∨ g y = g b))) := by
  simp only [jN]
  split <;> split <;> omega
theorem jN_comm {g : Nat → Nat} {a b c d x y : Nat} : jN (jN g a b) c d x = jN (jN g a b) c d y ↔ jN (jN g c d) a b x = jN (jN g c d) a b y := by
  simp only [jN_iff]
  omega
theorem mn_s {Ob Rv : Nat → Nat} {wo : Int32} {k v : Nat} (hv : v < 20) : mn Ob Rv wo (k + 1) v = if nI k = wo then mn Ob Rv wo k v else jN (mn Ob Rv wo k) (Ob k) (10 + Rv k) v := by
  simp only [mn, nkf, nkv, jN]
  rw [if_pos hv]
  by_cases q : nI k = wo
  · rw [if_pos q, if_neg (fun z => by have z1 := z.1; rw [decide_eq_true q] at z1; exact absurd z1 (by decide))]
  · rw [if_neg q]
    by_cases r : mn Ob Rv wo k v = mn Ob Rv wo k (Ob k)
    · rw [if_pos ⟨decide_eq_false q, r⟩, if_pos r]
    · rw [if_neg (fun z => r z.2), if_neg r]
/-- what both walks keep: the same dies together, the unknown ones alone -/
def GQ (K : Nat → Bool) (f : Nat → Int32) (g : Nat → Nat) : Prop := (∀ x, x < 20 → K x = true → f x ≠ -1 ∧ g x < 20 ∧ K (g x) = true) ∧ (∀ x, x < 20 → K x = false → f x = -1 ∧ g x = x) ∧ ∀ x y, x < 20 → y < 20 → K x = true → K y = true → (f x = f y ↔ g x = g y)
theorem GQ.all {K : Nat → Bool} {f : Nat → Int32} {g : Nat → Nat} (h : GQ K f g) {x v : Nat} (hx : x < 20) (hv : v < 20) (hk : K v = true) : f x = f v ↔ g x = g v := by
  cases q : K x with
  | true => exact h.2.2 x v hx hv q hk
  | false =>
    have h1 := h.2.1 x hx q
    have h2 := h.1 v hv hk
    constructor
    · intro e; exact absurd (e.symm.trans h1.1) h2.1
    · intro e
      rw [h1.2] at e
      rw [← e, q] at h2
      exact absurd h2.2.2 (by decide)
theorem GQ.join {K : Nat → Bool} {f : Nat → Int32} {g : Nat → Nat} (h : GQ K f g) {a b : Nat} (ha : a < 20) (hb : b < 20) (hka : K a = true) (hkb : K b = true) : GQ K (jn f a b) (jN g a b) := by
  refine ⟨fun x hx hk => ?_, fun x hx hk => ?_, fun x y hx hy hk1 hk2 => ?_⟩
  · refine ⟨?_, ?_, ?_⟩
    · simp only [jn]
      split
      · exact (h.1 a ha hka).1
      · exact (h.1 x hx hk).1
    · simp only [jN]
      split
      · exact (h.1 b hb hkb).2.1
      · exact (h.1 x hx hk).2.1
    · simp only [jN]
      split
      · exact (h.1 b hb hkb).2.2
      · exact (h.1 x hx hk).2.2
  · have h1 := h.2.1 x hx hk
    constructor
    · simp only [jn]
      rw [if_neg (fun q => (h.1 b hb hkb).1 (q.symm.trans h1.1))]
      exact h1.1
    · simp only [jN]
      rw [if_neg (fun q => by
        have h2 := (h.1 a ha hka).2.2
        rw [← q, h1.2, hk] at h2
        exact absurd h2 (by decide))]
      exact h1.2
  · rw [jn_iff, jN_iff, h.2.2 x y hx hy hk1 hk2, h.2.2 x a hx ha hk1 hka, h.2.2 x b hx hb hk1 hkb, h.2.2 y a hy ha hk2 hka, h.2.2 y b hy hb hk2 hkb]
theorem GQ.ext {K : Nat → Bool} {f : Nat → Int32} {g g2 : Nat → Nat} (h : GQ K f g) (e : ∀ x, x < 20 → g2 x = g x) : GQ K f g2 := by
  refine ⟨fun x hx hk => ?_, fun x hx hk => ?_, fun x y hx hy hk1 hk2 => ?_⟩
  · rw [e x hx]; exact h.1 x hx hk
  · rw [e x hx]; exact h.2.1 x hx hk
  · rw [e x hx, e y hy]; exact h.2.2 x y hx hy hk1 hk2
theorem GQ.zero (K : Nat → Bool) : GQ K (cmp0 K) (fun x => x) := by
  refine ⟨fun x hx hk => ?_, fun x hx hk => ?_, fun x y hx hy hk1 hk2 => ?_⟩
  · refine ⟨?_, hx, hk⟩
    simp only [cmp0]
    rw [if_pos hk]
    exact m1_ne (by omega)
  · refine ⟨?_, rfl⟩
    simp only [cmp0]
    rw [if_neg (by rw [hk]; decide)]
  · simp only [cmp0]
    rw [if_pos hk1, if_pos hk2]
    constructor
    · intro q
      have q2 := congrArg Int32.toNatClampNeg q
      rw [nI_clamp (by omega), nI_clamp (by omega)] at q2
      exact q2
    · intro q; rw [q]
/-- the dies that couples have -/
theorem kv_iff {D0 D1 : Nat → Nat} {M v : Nat} : kv D0 D1 M v = true ↔ ∃ k, k < M ∧ (D0 k = v ∨ 10 + D1 k = v) := by
  induction M with
  | zero => simp [kv]
  | succ M ih =>
    simp only [kv, ins, Bool.or_eq_true, decide_eq_true_eq]
    rw [ih]
    constructor
    · rintro ((⟨k, hk, h⟩ | h) | h)
      · exact ⟨k, by omega, h⟩
      · exact ⟨M, by omega, Or.inl h⟩
      · exact ⟨M, by omega, Or.inr h⟩
    · rintro ⟨k, hk, h⟩
      by_cases e : k = M
      · subst e
        rcases h with h | h
        · exact Or.inl (Or.inr h)
        · exact Or.inr h
      · exact Or.inl (Or.inl ⟨k, by omega, h⟩)
/-- nc as a count -/
theorem fs_iff {f : Nat → Nat} {b : Bool} {v u : Nat} : fs f b v u = true ↔ b = true ∧ ∀ x, x < u → ¬ f x = f v := by
  induction u with
  | zero => simp [fs]
  | succ u ih =>
    simp only [fs, Bool.and_eq_true, decide_eq_true_eq]
    rw [ih]
    constructor
    · rintro ⟨⟨h1, h2⟩, h3⟩
      refine ⟨h1, fun x hx => ?_⟩
      by_cases e : x = u
      · rw [e]; exact h3
      · exact h2 x (by omega)
    · rintro ⟨h1, h2⟩
      exact ⟨⟨h1, fun x hx => h2 x (by omega)⟩, h2 u (by omega)⟩
theorem nc_rk (f : Nat → Nat) (K : Nat → Bool) (n : Nat) : nc f K n = rk (fun v => fs f (K v) v v) n := by
  induction n with
  | zero => rfl
  | succ n ih => simp only [nc, rk]; rw [ih]
theorem nc_congr {f g : Nat → Nat} {K : Nat → Bool} {n : Nat} (h : ∀ x y, x < n → y < n → (f x = f y ↔ g x = g y)) : nc f K n = nc g K n := by
  rw [nc_rk, nc_rk]
  refine rk_ext (fun j hj => ?_)
  rw [Bool.eq_iff_iff, fs_iff, fs_iff]
  constructor
  · rintro ⟨h1, h2⟩
    exact ⟨h1, fun x hx q => h2 x hx ((h x j (by omega) hj).mpr q)⟩
  · rintro ⟨h1, h2⟩
    exact ⟨h1, fun x hx q => h2 x hx ((h x j (by omega) hj).mp q)⟩
theorem first_of (g : Nat → Nat) (v : Nat) : ∃ a, a ≤ v ∧ g a = g v ∧ ∀ u, u < a → ¬ g u = g v := by
  have h : ∀ n, (∀ u, u < n → ¬ g u = g v) ∨ ∃ a, a < n ∧ g a = g v ∧ ∀ u, u < a → ¬ g u = g v := by
    intro n
    induction n with
    | zero => exact Or.inl (fun u hu => absurd hu (Nat.not_lt_zero _))
    | succ n ih =>
      rcases ih with h | ⟨a, h1, h2⟩
      · by_cases e : g n = g v
        · exact Or.inr ⟨n, by omega, e, h⟩
        · refine Or.inl (fun u hu => ?_)
          by_cases q : u = n
          · rw [q]; exact e
          · exact h u (by omega)
      · exact Or.inr ⟨a, by omega, h2⟩
  rcases h (v + 1) with h | ⟨a, h1, h2⟩
  · exact absurd rfl (h v (by omega))
  · exact ⟨a, by omega, h2⟩
theorem nc_join {K : Nat → Bool} {g : Nat → Nat} {v w : Nat} (hv : v < 20) (hw : w < 20) (hQ : ∀ x, x < 20 → K x = false → g x = x) (hkv : K (g v) = true) (hkw : K (g w) = true) (hne : ¬ g v = g w) : nc (jN g v w) K 20 + 1 = nc g K 20 := by
  obtain ⟨a, a1, a2, a3⟩ := first_of g v
  obtain ⟨b, b1, b2, b3⟩ := first_of g w
  have hka : K a = true := by
    cases q : K a with
    | true => rfl
    | false =>
      have h := hQ a (by omega) q
      rw [← a2, h, q] at hkv
      exact hkv
  have hkb : K b = true := by
    cases q : K b with
    | true => rfl
    | false =>
      have h := hQ b (by omega) q
      rw [← b2, h, q] at hkw
      exact hkw
  have hab : a ≠ b := fun q => hne (by rw [← a2, ← b2, q])
  rw [nc_rk, nc_rk]
  have key : ∀ x, x < 20 → ((fun z => fs (jN g v w) (K z) z z) x = true ↔ (fun z => fs g (K z) z z) x = true ∧ x ≠ max a b) := by
    intro x hx
    show fs (jN g v w) (K x) x x = true ↔ fs g (K x) x x = true ∧ x ≠ max a b
    rw [fs_iff, fs_iff]
    by_cases q : g x = g v ∨ g x = g w
    · constructor
      · rintro ⟨h1, h2⟩
        have h3 : ∀ u, u < x → ¬ (g u = g v ∨ g u = g w) := fun u hu r => h2 u hu (by rw [jN_iff]; exact Or.inr ⟨r, q⟩)
        refine ⟨⟨h1, fun u hu r => h3 u hu (by omega)⟩, fun e => ?_⟩
        by_cases l : a < b
        · exact h3 a (by omega) (Or.inl a2)
        · exact h3 b (by omega) (Or.inr b2)
      · rintro ⟨⟨h1, h2⟩, h3⟩
        refine ⟨h1, fun u hu r => ?_⟩
        rw [jN_iff] at r
        have hxa : x = a ∨ x = b := by
          rcases q with q | q
          · left
            rcases Nat.lt_trichotomy x a with z | z | z
            · exact absurd q (a3 x z)
            · exact z
            · exact absurd (a2.trans q.symm) (h2 a z)
          · right
            rcases Nat.lt_trichotomy x b with z | z | z
            · exact absurd q (b3 x z)
            · exact z
            · exact absurd (b2.trans q.symm) (h2 b z)
        have hu2 : g u = g v ∨ g u = g w := by
          rcases r with r | r
          · rw [r]; exact q
          · exact r.1
        have hge : a ≤ u ∨ b ≤ u := by
          rcases hu2 with z | z
          · left; exact Nat.not_lt.mp (fun y => a3 u y z)
          · right; exact Nat.not_lt.mp (fun y => b3 u y z)
        omega
    · have hxm : x ≠ max a b := by
        intro e
        by_cases l : a < b
        · have : x = b := by omega
          rw [this] at q; exact q (Or.inr b2)
        · have : x = a := by omega
          rw [this] at q; exact q (Or.inl a2)
      constructor
      · rintro ⟨h1, h2⟩
        exact ⟨⟨h1, fun u hu r => h2 u hu (by rw [jN_iff]; exact Or.inl r)⟩, hxm⟩
      · rintro ⟨⟨h1, h2⟩, -⟩
        refine ⟨h1, fun u hu r => ?_⟩
        rw [jN_iff] at r
        rcases r with r | r
        · exact h2 u hu r
        · exact q r.2
  have hm20 : max a b < 20 := by omega
  have hf : (fun z => fs (jN g v w) (K z) z z) (max a b) = false := by
    cases q : (fun z => fs (jN g v w) (K z) z z) (max a b) with
    | false => rfl
    | true => exact absurd rfl ((key _ hm20).mp q).2
  have ht : (fun z => fs g (K z) z z) (max a b) = true := by
    show fs g (K (max a b)) (max a b) (max a b) = true
    rw [fs_iff]
    by_cases l : a < b
    · rw [show max a b = b by omega]
      exact ⟨hkb, fun u hu r => b3 u hu (r.trans b2)⟩
    · rw [show max a b = a by omega]
      exact ⟨hka, fun u hu r => a3 u hu (r.trans a2)⟩
  rw [rk_ins (b := fun z => fs (jN g v w) (K z) z z) hf hm20]
  refine rk_ext (fun j hj => ?_)
  rw [Bool.eq_iff_iff]
  simp only [ins, Bool.or_eq_true, decide_eq_true_eq]
  have kj := key j hj
  simp only at kj ht
  constructor
  · rintro (h | h)
    · exact (kj.mp h).1
    · rw [← h]; exact ht
  · intro h
    by_cases e : max a b = j
    · exact Or.inr e
    · exact Or.inl (kj.mpr ⟨h, fun z => e z.symm⟩)
section GR
variable {M : Nat} {D0 D1 L0 L1 G0 G1 Ob Rv Lo Hi : Nat → Nat}
/-- both walks, step by step -/
theorem gq_all (h : Sam M D0 D1 L0 L1 G0 G1 Ob Rv Lo Hi) (b0 : Bd D0) (b1 : Bd D1) (wo : Int32) (k : Nat) (hk : k ≤ M) : GQ (kv D0 D1 M) (cn D0 D1 wo M k) (mn Ob Rv wo k) ∧ ck D0 D1 wo M k = nI (nc (mn Ob Rv wo k) (kv D0 D1 M) 20) := by
  induction k with
  | zero =>
    refine ⟨GQ.zero _, ?_⟩
    show nI (rk (kv D0 D1 M) 20) = nI (nc (fun j => j) (kv D0 D1 M) 20)
    congr 1
    rw [nc_rk]
    refine rk_ext (fun j hj => ?_)
    rw [Bool.eq_iff_iff, fs_iff]
    exact ⟨fun q => ⟨q, fun x hx e => by omega⟩, fun q => q.1⟩
  | succ k ih =>
    obtain ⟨i1, i2⟩ := ih (by omega)
    have e0 := h.1 k (by omega)
    by_cases q : nI k = wo
    · have em : ∀ x, x < 20 → mn Ob Rv wo (k + 1) x = mn Ob Rv wo k x := fun x hx => by rw [mn_s hx, if_pos q]
      refine ⟨?_, ?_⟩
      · simp only [cn]
        rw [if_pos q]
        exact i1.ext em
      · simp only [ck]
        rw [if_pos q, i2]
        congr 1
        exact nc_congr (fun x y hx hy => by rw [em x hx, em y hy])
    · have em : ∀ x, x < 20 → mn Ob Rv wo (k + 1) x = jN (mn Ob Rv wo k) (D0 k) (10 + D1 k) x := fun x hx => by rw [mn_s hx, if_neg q, e0.1, e0.2.1]
      have la := b0 k
      have lb := b1 k
      have ka : kv D0 D1 M (D0 k) = true := kv_iff.mpr ⟨k, by omega, Or.inl rfl⟩
      have kb : kv D0 D1 M (10 + D1 k) = true := kv_iff.mpr ⟨k, by omega, Or.inr rfl⟩
      refine ⟨?_, ?_⟩
      · simp only [cn]
        rw [if_neg q]
        exact (i1.join (by omega) (by omega) ka kb).ext em
      · simp only [ck]
        rw [if_neg q, i2]
        rw [nc_congr (f := mn Ob Rv wo (k + 1)) (g := jN (mn Ob Rv wo k) (D0 k) (10 + D1 k)) (fun x y hx hy => by rw [em x hx, em y hy])]
        simp only [jc]
        have hE := i1.2.2 (D0 k) (10 + D1 k) (by omega) (by omega) ka kb
        by_cases r : mn Ob Rv wo k (D0 k) = mn Ob Rv wo k (10 + D1 k)
        · rw [if_pos (hE.mpr r)]
          congr 1
          refine nc_congr (fun x y hx hy => ?_)
          rw [jN_iff]
          omega
        · rw [if_neg (fun z => r (hE.mp z))]
          have hj := nc_join (K := kv D0 D1 M) (g := mn Ob Rv wo k) (v := D0 k) (w := 10 + D1 k) (by omega) (by omega) (fun x hx hz => (i1.2.1 x hx hz).2) (i1.1 _ (by omega) ka).2.2 (i1.1 _ (by omega) kb).2.2 r
          rw [← hj, pk_sub (by omega)]
          congr 1
/-- a couple may be joined last -/
theorem mn_last (c : Nat) (hM : M < 2 ^ 31) (hc : c < M) (b0 : Bd Ob) (b1 : Bd Rv) (k : Nat) (hk : k ≤ M) (x y : Nat) (hx : x < 20) (hy : y < 20) : mn Ob Rv (-1) k x = mn Ob Rv (-1) k y ↔ (if c < k then jN (mn Ob Rv (nI c) k) (Ob c) (10 + Rv c) x = jN (mn Ob Rv (nI c) k) (Ob c) (10 + Rv c) y else mn Ob Rv (nI c) k x = mn Ob Rv (nI c) k y) := by
  induction k generalizing x y with
  | zero => rw [if_neg (by omega)]; rfl
  | succ k ih =>
    have hm1 : ¬ nI k = -1 := m1_ne (by omega)
    have oc := b0 c
    have rc := b1 c
    have ok := b0 k
    have rk' := b1 k
    have e1 : ∀ z, z < 20 → mn Ob Rv (-1) (k + 1) z = jN (mn Ob Rv (-1) k) (Ob k) (10 + Rv k) z := fun z hz => by rw [mn_s hz, if_neg hm1]
    rw [e1 x hx, e1 y hy, jN_iff]
    have ix := ih (by omega) x y hx hy
    have i1 := ih (by omega) x (Ob k) hx (by omega)
    have i2 := ih (by omega) x (10 + Rv k) hx (by omega)
    have i3 := ih (by omega) y (Ob k) hy (by omega)
    have i4 := ih (by omega) y (10 + Rv k) hy (by omega)
    by_cases q : k = c
    · subst q
      rw [if_neg (by omega)] at ix i1 i2 i3 i4
      rw [if_pos (by omega), ix, i1, i2, i3, i4]
      have e2 : ∀ z, z < 20 → mn Ob Rv (nI k) (k + 1) z = mn Ob Rv (nI k) k z := fun z hz => by rw [mn_s hz, if_pos rfl]
      rw [jN_iff, e2 x hx, e2 y hy, e2 _ (by omega), e2 _ (by omega)]
    · have hne : ¬ nI k = nI c := fun z => q (by
        have z2 := congrArg Int32.toNatClampNeg z
        rw [nI_clamp (by omega), nI_clamp (by omega)] at z2
        exact z2)
      have e2 : ∀ z, z < 20 → mn Ob Rv (nI c) (k + 1) z = jN (mn Ob Rv (nI c) k) (Ob k) (10 + Rv k) z := fun z hz => by rw [mn_s hz, if_neg hne]
      by_cases l : c < k
      · rw [if_pos l] at ix i1 i2 i3 i4
        rw [if_pos (by omega), ix, i1, i2, i3, i4]
        rw [jN_iff (g := mn Ob Rv (nI c) (k + 1)), e2 x hx, e2 y hy, e2 (Ob c) (by omega), e2 (10 + Rv c) (by omega)]
        rw [← jN_iff (g := jN (mn Ob Rv (nI c) k) (Ob c) (10 + Rv c)), ← jN_iff (g := jN (mn Ob Rv (nI c) k) (Ob k) (10 + Rv k))]
        exact jN_comm
      · rw [if_neg l] at ix i1 i2 i3 i4
        rw [if_neg (by omega), ix, i1, i2, i3, i4, e2 x hx, e2 y hy, jN_iff]
theorem fa_ans (h : Sam M D0 D1 L0 L1 G0 G1 Ob Rv Lo Hi) (hM : M ≤ 24) (b0 : Bd D0) (b1 : Bd D1) (c0 : Bd Ob) (c1 : Bd Rv) {c : Nat} (hc : c < M) : fa D0 D1 M c = bM Ob Rv (kv D0 D1 M) M c := by
  obtain ⟨g1, -⟩ := gq_all h b0 b1 (nI c) M (Nat.le_refl _)
  have e0 := h.1 c hc
  have la := b0 c
  have lb := b1 c
  have ka : kv D0 D1 M (D0 c) = true := kv_iff.mpr ⟨c, hc, Or.inl rfl⟩
  have kb : kv D0 D1 M (10 + D1 c) = true := kv_iff.mpr ⟨c, hc, Or.inr rfl⟩
  unfold fa bM
  refine decide_eq_decide.mpr ?_
  rw [g1.2.2 (D0 c) (10 + D1 c) (by omega) (by omega) ka kb]
  have hn : nc (mn Ob Rv (-1) M) (kv D0 D1 M) 20 = nc (jN (mn Ob Rv (nI c) M) (D0 c) (10 + D1 c)) (kv D0 D1 M) 20 := nc_congr (fun x y hx hy => by
    have z := mn_last c (by omega) hc c0 c1 M (Nat.le_refl _) x y hx hy
    rw [if_pos hc, ← e0.1, ← e0.2.1] at z
    exact z)
  rw [hn]
  by_cases r : mn Ob Rv (nI c) M (D0 c) = mn Ob Rv (nI c) M (10 + D1 c)
  · have hs : nc (jN (mn Ob Rv (nI c) M) (D0 c) (10 + D1 c)) (kv D0 D1 M) 20 = nc (mn Ob Rv (nI c) M) (kv D0 D1 M) 20 := nc_congr (fun x y hx hy => by
      rw [jN_iff]
      omega)
    rw [hs]
    constructor
    · intro q; exact absurd r q
    · intro q; omega
  · have hj := nc_join (K := kv D0 D1 M) (g := mn Ob Rv (nI c) M) (v := D0 c) (w := 10 + D1 c) (by omega) (by omega) (fun x hx hz => (g1.2.1 x hx hz).2) (g1.1 _ (by omega) ka).2.2 (g1.1 _ (by omega) kb).2.2 r
    constructor
    · intro _; omega
    · intro _; exact r
theorem bc_ans (h : Sam M D0 D1 L0 L1 G0 G1 Ob Rv Lo Hi) (hM : M ≤ 24) (b0 : Bd D0) (b1 : Bd D1) (c0 : Bd Ob) (c1 : Bd Rv) (k : Nat) (hk : k ≤ M) : bc D0 D1 M k = bcM Ob Rv (kv D0 D1 M) M k := by
  induction k with
  | zero => rfl
  | succ k ih =>
    simp only [bc, bcM]
    rw [ih (by omega), fa_ans h hM b0 b1 c0 c1 (by omega)]
theorem cq_ans {K : Nat → Bool} {f : Nat → Int32} {g : Nat → Nat} (h : GQ K f g) {v : Nat} (hv : v < 20) (hk : K v = true) (n : Nat) (hn : n ≤ 20) : cq f (f v) n = cqN g (g v) n := by
  induction n with
  | zero => rfl
  | succ n ih =>
    simp only [cq, cqN]
    rw [ih (by omega)]
    congr 1
    by_cases q : f n = f v
    · rw [if_pos q, if_pos ((h.all (by omega) hv hk).mp q)]
    · rw [if_neg q, if_neg (fun z => q ((h.all (by omega) hv hk).mpr z))]
theorem cqN_pos {g : Nat → Nat} {v n : Nat} (h : v < n) : 0 < cqN g (g v) n := by
  induction n with
  | zero => omega
  | succ n ih =>
    simp only [cqN]
    by_cases e : v = n
    · subst e; simp
    · have := ih (by omega); omega
/-- the known dies, by the couples and by the specimens -/
theorem cnt_pos {F : Nat → Nat} {sd a n : Nat} : 0 < cnt F sd a n ↔ ∃ i, i < n ∧ F (4 * i + sd) = a := by
  induction n with
  | zero => simp [cnt]
  | succ n ih =>
    simp only [cnt]
    constructor
    · intro h
      by_cases q : F (4 * n + sd) = a
      · exact ⟨n, by omega, q⟩
      · rw [if_neg q] at h
        obtain ⟨i, hi, e⟩ := ih.mp (by omega)
        exact ⟨i, by omega, e⟩
    · rintro ⟨i, hi, e⟩
      by_cases q : i = n
      · subst q; rw [if_pos e]; omega
      · have := ih.mpr ⟨i, by omega, e⟩
        omega
theorem kd_ans {F Nw : Nat → Nat} {n : Nat} (h1 : ∀ j, j < 96 → F j = Nw j) (h2 : Nw 96 = n) (h3 : n ≤ 24) (hF : ∀ j, F j < 10) (hC : Cpl F n n D0 D1 L0 L1 G0 G1) {v : Nat} (hv : v < 20) : kv D0 D1 (rk (hasP F n) 100) v = kd Nw v := by
  rw [Bool.eq_iff_iff, kv_iff]
  unfold kd
  rw [decide_eq_true_iff, h2, ← cnt_ext h1 (by omega) h3, cnt_pos]
  constructor
  · rintro ⟨k, hk, e⟩
    obtain ⟨j, hj, hb, rfl⟩ := rk_surj _ hk
    obtain ⟨i, hi, hp⟩ := (hasP_iff F n j).mp hb
    have q := hC j hj hb
    have f0 := hF (4 * i + 0)
    have f1 := hF (4 * i + 1)
    unfold pr at hp
    refine ⟨i, hi, ?_⟩
    rcases e with e | e
    · rw [q.1] at e
      rw [show v / 10 = 0 by omega]
      omega
    · rw [q.2.1] at e
      rw [show v / 10 = 1 by omega]
      omega
  · rintro ⟨i, hi, e⟩
    have f0 := hF (4 * i + 0)
    have f1 := hF (4 * i + 1)
    have hb : hasP F n (pr F i) = true := (hasP_iff F n _).mpr ⟨i, hi, rfl⟩
    have hp := pr_lt hF i
    have q := hC _ hp hb
    refine ⟨rk (hasP F n) (pr F i), rk_lt _ hp hb, ?_⟩
    rw [q.1, q.2.1]
    unfold pr
    by_cases l : v < 10
    · left
      rw [show v / 10 = 0 by omega] at e
      omega
    · right
      rw [show v / 10 = 1 by omega] at e
      omega
theorem rk_split (b : Nat → Bool) (m k : Nat) : rk b (m + k) = rk b m + rk (fun j => b (m + j)) k := by
  induction k with
  | zero => rfl
  | succ k ih =>
    have e : rk b (m + (k + 1)) = rk b (m + k) + (if b (m + k) = true then 1 else 0) := rfl
    have e2 : rk (fun j => b (m + j)) (k + 1) = rk (fun j => b (m + j)) k + (if b (m + k) = true then 1 else 0) := rfl
    rw [e, e2, ih]
    omega
theorem rk_kd {Nw : Nat → Nat} : rk (kd Nw) 20 = kn Nw 0 (Nw 96) 10 + kn Nw 1 (Nw 96) 10 := by
  rw [show 20 = 10 + 10 from rfl, rk_split]
  have e0 : ∀ k, k ≤ 10 → rk (kd Nw) k = kn Nw 0 (Nw 96) k := by
    intro k
    induction k with
    | zero => intro _; rfl
    | succ k ih =>
      intro hk
      simp only [rk, kn]
      rw [ih (by omega)]
      simp only [kd, decide_eq_true_eq]
      rw [show k / 10 = 0 by omega, show k % 10 = k by omega]
  have e1 : ∀ k, k ≤ 10 → rk (fun j => kd Nw (10 + j)) k = kn Nw 1 (Nw 96) k := by
    intro k
    induction k with
    | zero => intro _; rfl
    | succ k ih =>
      intro hk
      simp only [rk, kn]
      rw [ih (by omega)]
      simp only [kd, decide_eq_true_eq]
      rw [show (10 + k) / 10 = 1 by omega, show (10 + k) % 10 = k by omega]
  rw [e0 10 (Nat.le_refl _), e1 10 (Nat.le_refl _)]
theorem nc_kext {g : Nat → Nat} {K K2 : Nat → Bool} {n : Nat} (h : ∀ v, v < n → K v = K2 v) : nc g K n = nc g K2 n := by
  rw [nc_rk, nc_rk]
  exact rk_ext (fun j hj => by show fs g (K j) j j = fs g (K2 j) j j; rw [h j hj])
theorem bcM_kext {K K2 : Nat → Bool} {m k : Nat} (h : ∀ v, v < 20 → K v = K2 v) : bcM Ob Rv K m k = bcM Ob Rv K2 m k := by
  induction k with
  | zero => rfl
  | succ k ih =>
    have e : bM Ob Rv K m k = bM Ob Rv K2 m k := by
      unfold bM
      rw [nc_kext (g := mn Ob Rv (-1) m) h, nc_kext (g := mn Ob Rv (nI k) m) h]
    simp only [bcM]
    rw [ih, e]
end GR
