/-! ===== the orders of both ===== -/
section ORD
variable {er er2 : Nat → Nat → Bool} {mm : Nat}
theorem erl_erM {M : Nat} {D0 D1 L0 L1 G0 G1 Ob Rv Lo Hi : Nat → Nat} (h : Sam M D0 D1 L0 L1 G0 G1 Ob Rv Lo Hi) {a b : Nat} (ha : a < M) (hb : b < M) : erl D0 D1 L0 L1 G0 G1 a b = erM Ob Rv Lo Hi a b := by
  obtain ⟨p1, p2, p3, p4, p5, p6⟩ := h.1 a ha
  obtain ⟨q1, q2, q3, q4, q5, q6⟩ := h.1 b hb
  have hd := h.2 a b ha hb
  unfold erl erb erM byM
  rw [p1, p2, p3, p4, p5, p6, q1, q2, q3, q4, q5, q6]
  rw [p1, p2, q1, q2] at hd
  rw [show 24 * 0 + a = a by omega, show 24 * 0 + b = b by omega, show 24 * 1 + a = 24 + a by omega, show 24 * 1 + b = 24 + b by omega]
  rw [Bool.eq_iff_iff]
  by_cases e : a = b
  · subst e
    rw [if_pos rfl]
    simp
  · rw [if_neg e]
    by_cases o : Ob a = Ob b
    · rw [if_pos o]
      have r : ¬ Rv a = Rv b := fun z => e (hd o z)
      simp [o, r]
    · rw [if_neg o]
      simp [o]
theorem ce_ext (h : ∀ a b, a < mm → b < mm → er a b = er2 a b) {x k : Nat} (hx : x < mm) (hk : k ≤ mm) : ce er x k = ce er2 x k := by
  induction k with
  | zero => rfl
  | succ k ih =>
    simp only [ce]
    rw [ih (by omega), h k x (by omega) hx]
theorem arS_ext (h : ∀ a b, a < mm → b < mm → er a b = er2 a b) (O0 : Nat → Nat) (k : Nat) : arS er mm O0 k = arS er2 mm O0 k := by
  induction k with
  | zero =>
    simp only [arS]
    have e : wcE er mm mm = wcE er2 mm mm := by
      funext x
      simp only [wcE]
      by_cases q : x < mm
      · rw [if_pos q, if_pos q, ce_ext h q (Nat.le_refl _)]
      · rw [if_neg q, if_neg q]
    rw [e]
  | succ k ih =>
    simp only [arS]
    rw [ih]
    cases arS er2 mm O0 k with
    | none => rfl
    | some t =>
      simp only [Option.bind_some]
      cases hz : lowZ t.1 mm with
      | none => rfl
      | some x =>
        have hx := (lowZ_some.mp hz).1
        simp only [Option.bind_some]
        have e1 : ∀ WF, relW er WF x mm = relW er2 WF x mm := fun WF => by
          funext y
          simp only [relW]
          by_cases q : y < mm
          · rw [h x y hx q]
          · rw [if_neg (fun z => q z.1), if_neg (fun z => q z.1)]
        have e2 : ∀ WF DP, relD er WF DP x mm = relD er2 WF DP x mm := fun WF DP => by
          funext y
          simp only [relD]
          by_cases q : y < mm
          · rw [h x y hx q]
          · rw [if_neg (fun z => q z.1), if_neg (fun z => q z.1)]
        rw [e1, e2]
/-- of y's earlier ones, how many are not placed, and how high the placed ones lie -/
def ceP (er : Nat → Nat → Bool) (pl : Nat → Bool) (y : Nat) : Nat → Nat
  | 0 => 0
  | o + 1 => ceP er pl y o + (if pl o = false ∧ er o y = true then 1 else 0)
def mxP (er : Nat → Nat → Bool) (ge : Nat → Nat) (pl : Nat → Bool) (y : Nat) : Nat → Nat
  | 0 => 0
  | o + 1 => max (mxP er ge pl y o) (if pl o = true ∧ er o y = true then ge o + 1 else 0)
theorem ceP_le (pl : Nat → Bool) (y k : Nat) : ceP er pl y k ≤ k := by
  induction k with
  | zero => exact Nat.le_refl _
  | succ k ih => simp only [ceP]; split <;> omega
theorem ceP_0 {pl : Nat → Bool} (hp : ∀ x, x < mm → pl x = false) {y : Nat} (hi : er y y = false) (k : Nat) (hk : k ≤ mm) : ceP er pl y k = ce er y k := by
  induction k with
  | zero => rfl
  | succ k ih =>
    simp only [ceP, ce]
    rw [ih (by omega)]
    congr 1
    by_cases q : er k y = true
    · have hne : ¬ k = y := fun z => by rw [z, hi] at q; exact absurd q (by decide)
      rw [if_pos ⟨hp k (by omega), q⟩, if_pos ⟨hne, q⟩]
    · rw [if_neg (fun z => q z.2), if_neg (fun z => q z.2)]
theorem mxP_0 {pl : Nat → Bool} (hp : ∀ x, x < mm → pl x = false) {ge : Nat → Nat} {y : Nat} (k : Nat) (hk : k ≤ mm) : mxP er ge pl y k = 0 := by
  induction k with
  | zero => rfl
  | succ k ih =>
    simp only [mxP]
    rw [ih (by omega), if_neg (fun z => by rw [hp k (by omega)] at z; exact absurd z.1 (by decide))]
    rfl
theorem updB_at (pl : Nat → Bool) (x : Nat) : updB pl x true x = true := by simp [updB]
theorem ceP_upd {pl : Nat → Bool} {x : Nat} (hx : pl x = false) (y k : Nat) : ceP er (updB pl x true) y k + (if x < k ∧ er x y = true then 1 else 0) = ceP er pl y k := by
  induction k with
  | zero => rfl
  | succ k ih =>
    simp only [ceP]
    by_cases e : k = x
    · subst e
      rw [updB_at, hx]
      rw [if_neg (by omega)] at ih
      by_cases q : er k y = true
      · rw [if_neg (by simp), if_pos ⟨by omega, q⟩, if_pos ⟨rfl, q⟩]
        omega
      · rw [if_neg (by simp), if_neg (fun z => q z.2), if_neg (fun z => q z.2)]
        omega
    · rw [updB_ne _ _ e]
      by_cases q : er x y = true
      · by_cases l : x < k
        · rw [if_pos ⟨l, q⟩] at ih
          rw [if_pos (show x < k + 1 ∧ er x y = true from ⟨by omega, q⟩)]
          omega
        · rw [if_neg (fun z => l z.1)] at ih
          rw [if_neg (show ¬ (x < k + 1 ∧ er x y = true) from fun z => by omega)]
          omega
      · rw [if_neg (fun z => q z.2)] at ih
        rw [if_neg (show ¬ (x < k + 1 ∧ er x y = true) from fun z => q z.2)]
        omega
theorem mxP_upd {pl : Nat → Bool} {x : Nat} (hx : pl x = false) (ge : Nat → Nat) (g y k : Nat) : mxP er (updN ge x g) (updB pl x true) y k = max (mxP er ge pl y k) (if x < k ∧ er x y = true then g + 1 else 0) := by
  induction k with
  | zero => simp [mxP]
  | succ k ih =>
    simp only [mxP]
    rw [ih]
    by_cases e : k = x
    · subst e
      rw [updB_at, updN_eq, hx, if_neg (by omega)]
      by_cases q : er k y = true
      · rw [if_pos ⟨rfl, q⟩, if_pos (show k < k + 1 ∧ er k y = true from ⟨by omega, q⟩), if_neg (by simp)]
        try omega
      · rw [if_neg (fun z => q z.2), if_neg (show ¬ (k < k + 1 ∧ er k y = true) from fun z => q z.2), if_neg (by simp)]
        try omega
    · rw [updB_ne _ _ e, updN_ne _ _ e]
      by_cases q : er x y = true
      · by_cases l : x < k
        · rw [if_pos ⟨l, q⟩, if_pos (show x < k + 1 ∧ er x y = true from ⟨by omega, q⟩)]
          omega
        · rw [if_neg (fun z => l z.1), if_neg (show ¬ (x < k + 1 ∧ er x y = true) from fun z => by omega)]
          omega
      · rw [if_neg (fun z => q z.2), if_neg (show ¬ (x < k + 1 ∧ er x y = true) from fun z => q z.2)]
        omega
theorem canM_iff {pl : Nat → Bool} {x k : Nat} : canM er pl x k = true ↔ pl x = false ∧ ceP er pl x k = 0 := by
  induction k with
  | zero => simp [canM, ceP]
  | succ k ih =>
    simp only [canM, ceP, Bool.and_eq_true]
    rw [ih]
    constructor
    · rintro ⟨⟨h1, h2⟩, h3⟩
      refine ⟨h1, ?_⟩
      rw [h2, if_neg (fun z => by rw [z.1, z.2] at h3; exact absurd h3 (by decide))]
    · rintro ⟨h1, h2⟩
      refine ⟨⟨h1, by omega⟩, ?_⟩
      cases q : pl k with
      | true => rfl
      | false =>
        cases r : er k x with
        | false => rfl
        | true => rw [if_pos ⟨q, r⟩] at h2; omega
theorem gmx_mxP {pl : Nat → Bool} {ge : Nat → Nat} {x k : Nat} (h : ceP er pl x k = 0) (hg : ge x = 0) : gmx er ge x k = mxP er ge pl x k := by
  induction k with
  | zero => simp only [gmx, mxP]; exact hg
  | succ k ih =>
    simp only [ceP] at h
    simp only [gmx, mxP, gv]
    rw [ih (by omega)]
    congr 1
    cases r : er k x with
    | false => rw [if_neg (by decide), if_neg (fun z => absurd z.2 (by decide))]
    | true =>
      cases q : pl k with
      | true => rw [if_pos rfl, if_pos ⟨rfl, rfl⟩]
      | false => rw [if_pos ⟨q, r⟩] at h; omega
theorem lowF_spec (g : Nat → Bool) (d : Nat) (hd : d ≤ mm) : (lowF g mm d = none ∧ ∀ j, mm - d ≤ j → j < mm → g j = false) ∨ ∃ c, lowF g mm d = some c ∧ mm - d ≤ c ∧ c < mm ∧ g c = true ∧ ∀ j, mm - d ≤ j → j < c → g j = false := by
  induction d with
  | zero => exact Or.inl ⟨rfl, fun j h1 h2 => by omega⟩
  | succ d ih =>
    simp only [lowF]
    cases q : g (mm - (d + 1)) with
    | true =>
      rw [if_pos rfl]
      exact Or.inr ⟨_, rfl, Nat.le_refl _, by omega, q, fun j h1 h2 => by omega⟩
    | false =>
      rw [if_neg (by decide)]
      rcases ih (by omega) with ⟨h1, h2⟩ | ⟨c, h1, h2, h3, h4, h5⟩
      · refine Or.inl ⟨h1, fun j g1 g2 => ?_⟩
        by_cases e : j = mm - (d + 1)
        · rw [e]; exact q
        · exact h2 j (by omega) g2
      · refine Or.inr ⟨c, h1, by omega, h3, h4, fun j g1 g2 => ?_⟩
        by_cases e : j = mm - (d + 1)
        · rw [e]; exact q
        · exact h5 j (by omega) g2
theorem low_eq {f : Nat → Int32} {g : Nat → Bool} (h : ∀ x, x < mm → (f x = 0 ↔ g x = true)) : lowZ f mm = lowF g mm mm := by
  rcases lowF_spec (mm := mm) g mm (Nat.le_refl _) with ⟨h1, h2⟩ | ⟨c, h1, h2, h3, h4, h5⟩
  · rw [h1, lowZ_none]
    intro j hj q
    have := h2 j (by omega) hj
    rw [(h j hj).mp q] at this
    exact absurd this (by decide)
  · rw [h1, lowZ_some]
    refine ⟨h3, (h c h3).mpr h4, fun j hj q => ?_⟩
    have := h5 j (by omega) hj
    rw [(h j (by omega)).mp q] at this
    exact absurd this (by decide)
theorem nI_eq0 {k : Nat} (h : k < 2 ^ 31) : nI k = 0 ↔ k = 0 := by
  constructor
  · intro q
    have q2 := congrArg Int32.toNatClampNeg q
    rw [nI_clamp h] at q2
    exact q2
  · intro q; rw [q]; rfl
def Sim (er : Nat → Nat → Bool) (mm k : Nat) (t : (Nat → Int32) × (Nat → Nat) × (Nat → Nat)) (u : (Nat → Bool) × (Nat → Nat) × (Nat → Nat)) : Prop := (∀ x, x < mm → (u.1 x = true → t.1 x = -1 ∧ t.2.2 x = u.2.2 x) ∧ (u.1 x = false → t.1 x = nI (ceP er u.1 x mm) ∧ t.2.2 x = mxP er u.2.2 u.1 x mm ∧ u.2.2 x = 0)) ∧ (∀ i, i < k → t.2.1 i = u.2.1 i) ∧ rk u.1 mm = k
theorem sim_step (hirr : ∀ x, x < mm → er x x = false) (hm : mm ≤ 24) {k : Nat} {t : (Nat → Int32) × (Nat → Nat) × (Nat → Nat)} {u : (Nat → Bool) × (Nat → Nat) × (Nat → Nat)} (h : Sim er mm k t u) :
    lowZ t.1 mm = lowF (fun x => canM er u.1 x mm) mm mm ∧ ∀ x, lowZ t.1 mm = some x → Sim er mm (k + 1) (relW er (upd t.1 x (-1)) x mm, updN t.2.1 k x, relD er (upd t.1 x (-1)) t.2.2 x mm) (updB u.1 x true, updN u.2.1 k x, updN u.2.2 x (gmx er u.2.2 x mm)) := by
  obtain ⟨W, O, DP⟩ := t
  obtain ⟨pl, od, ge⟩ := u
  obtain ⟨h1, h2, h3⟩ := h
  dsimp only at h1 h2 h3
  have key : ∀ x, x < mm → (W x = 0 ↔ canM er pl x mm = true) := fun x hx => by
    rw [canM_iff]
    cases q : pl x with
    | true =>
      have z := ((h1 x hx).1 q).1
      constructor
      · intro e; rw [z] at e; exact absurd e (by decide)
      · intro e; exact absurd e.1 (by decide)
    | false =>
      have z := ((h1 x hx).2 q).1
      have l := ceP_le (er := er) pl x mm
      rw [z, nI_eq0 (by omega)]
      exact ⟨fun e => ⟨rfl, e⟩, fun e => e.2⟩
  refine ⟨low_eq key, fun x hz => ?_⟩
  dsimp only at hz ⊢
  obtain ⟨z1, z2, z3⟩ := lowZ_some.mp hz
  obtain ⟨c1, c2⟩ := canM_iff.mp ((key x z1).mp z2)
  obtain ⟨d1, d2, d3⟩ := (h1 x z1).2 c1
  have hg : gmx er ge x mm = DP x := by rw [gmx_mxP c2 d3, d2]
  have hxx := hirr x z1
  refine ⟨fun y hy => ⟨fun hp => ?_, fun hp => ?_⟩, fun i hi => ?_, ?_⟩
  · dsimp only at hp ⊢
    by_cases e : y = x
    · subst e
      refine ⟨?_, ?_⟩
      · simp only [relW]
        rw [if_neg (fun z => z.2.1 (by simp [upd]))]
        simp [upd]
      · rw [updN_eq, hg, relD_q (by simp [upd])]
    · rw [updB_ne _ _ e] at hp
      have w := (h1 y hy).1 hp
      have wu : upd W x (-1) y = -1 := by simp [upd, e, w.1]
      refine ⟨?_, ?_⟩
      · simp only [relW]
        rw [if_neg (fun z => z.2.1 wu)]
        exact wu
      · rw [updN_ne _ _ e]
        simp only [relD]
        rw [if_neg (fun z => z.2.1 wu)]
        exact w.2
  · dsimp only at hp ⊢
    by_cases e : y = x
    · subst e
      rw [updB_at] at hp
      exact absurd hp (by decide)
    · rw [updB_ne _ _ e] at hp
      obtain ⟨w1, w2, w3⟩ := (h1 y hy).2 hp
      have l := ceP_le (er := er) pl y mm
      have wu : upd W x (-1) y = nI (ceP er pl y mm) := by simp [upd, e, w1]
      have hne : ¬ upd W x (-1) y = -1 := by rw [wu]; exact m1_ne (by omega)
      have q1 := ceP_upd (er := er) c1 y mm
      have q2 := mxP_upd (er := er) c1 ge (gmx er ge x mm) y mm
      refine ⟨?_, ?_, ?_⟩
      · simp only [relW]
        by_cases r : er x y = true
        · rw [if_pos ⟨hy, hne, r⟩, wu]
          rw [if_pos ⟨z1, r⟩] at q1
          rw [← q1, pk_sub (by omega)]
          rfl
        · rw [if_neg (fun z => r z.2.2), wu]
          rw [if_neg (fun z => r z.2)] at q1
          rw [← q1]
          rfl
      · rw [q2, ← w2, hg]
        simp only [relD]
        by_cases r : er x y = true
        · rw [if_pos ⟨hy, hne, r⟩, if_pos ⟨z1, r⟩]
        · rw [if_neg (fun z => r z.2.2), if_neg (fun z => r z.2)]
          omega
      · rw [updN_ne _ _ e]
        exact w3
  · dsimp only
    by_cases e : i = k
    · rw [e, updN_eq, updN_eq]
    · rw [updN_ne _ _ e, updN_ne _ _ e]
      exact h2 i (by omega)
  · dsimp only
    have eb : updB pl x true = ins pl x := by
      funext y
      by_cases e : y = x
      · subst e; simp [updB, ins]
      · have e2 : ¬ x = y := fun z => e z.symm
        simp [updB, ins, e, e2]
    rw [eb, ← rk_ins c1 z1, h3]
theorem sim_all (hirr : ∀ x, x < mm → er x x = false) (hm : mm ≤ 24) {p0 : Nat → Bool} {o0 g0 O0 : Nat → Nat} (hp : ∀ x, x < mm → p0 x = false) (hg : ∀ x, x < mm → g0 x = 0) (k : Nat) : (arS er mm O0 k = none ∧ plS er mm p0 o0 g0 k = none) ∨ ∃ t u, arS er mm O0 k = some t ∧ plS er mm p0 o0 g0 k = some u ∧ Sim er mm k t u := by
  induction k with
  | zero =>
    refine Or.inr ⟨_, _, rfl, rfl, fun x hx => ⟨fun q => ?_, fun _ => ⟨?_, ?_, hg x hx⟩⟩, fun i hi => absurd hi (Nat.not_lt_zero _), ?_⟩
    · dsimp only at q
      rw [hp x hx] at q
      exact absurd q (by decide)
    · dsimp only
      simp only [nA, wcE]
      rw [if_pos hx, ceP_0 hp (hirr x hx) mm (Nat.le_refl _)]
    · dsimp only
      rw [mxP_0 hp mm (Nat.le_refl _)]
    · dsimp only
      have e : ∀ n, n ≤ mm → rk p0 n = 0 := by
        intro n
        induction n with
        | zero => intro _; rfl
        | succ n ih =>
          intro hn
          simp only [rk]
          rw [ih (by omega), if_neg (by rw [hp n (by omega)]; decide)]
      exact e mm (Nat.le_refl _)
  | succ k ih =>
    rcases ih with ⟨h1, h2⟩ | ⟨t, u, h1, h2, h3⟩
    · exact Or.inl ⟨arS_none h1 (by omega), plS_none h2 (by omega)⟩
    · obtain ⟨s1, s2⟩ := sim_step hirr hm h3
      simp only [arS, plS]
      rw [h1, h2]
      simp only [Option.bind_some]
      rw [← s1]
      cases hz : lowZ t.1 mm with
      | none => exact Or.inl ⟨rfl, rfl⟩
      | some x => exact Or.inr ⟨_, _, rfl, rfl, s2 x hz⟩
theorem rk_full {b : Nat → Bool} {n : Nat} (h : rk b n = n) : ∀ x, x < n → b x = true := by
  induction n with
  | zero => intro x hx; omega
  | succ n ih =>
    simp only [rk] at h
    have l := rk_le b n
    intro x hx
    cases q : b n with
    | false => rw [q, if_neg (by decide)] at h; omega
    | true =>
      rw [q, if_pos rfl] at h
      by_cases e : x = n
      · rw [e]; exact q
      · exact ih (by omega) x (by omega)
end ORD
section ORE
variable {M : Nat} {D0 D1 L0 L1 G0 G1 Ob Rv Lo Hi OR Od Ge : Nat → Nat} {Pl : Nat → Bool}
theorem ord_both (h : Sam M D0 D1 L0 L1 G0 G1 Ob Rv Lo Hi) (hM : M ≤ 24) : (arS (erl D0 D1 L0 L1 G0 G1) M OR M = none ∧ plS (erM Ob Rv Lo Hi) M (clrB Pl M) Od (clrN Ge M) M = none) ∨ ∃ t u, arS (erl D0 D1 L0 L1 G0 G1) M OR M = some t ∧ plS (erM Ob Rv Lo Hi) M (clrB Pl M) Od (clrN Ge M) M = some u ∧ (∀ x, x < M → t.2.1 x = u.2.1 x) ∧ ∀ x, x < M → t.2.2 x = u.2.2 x := by
  rw [arS_ext (er2 := erM Ob Rv Lo Hi) (fun a b ha hb => erl_erM h ha hb)]
  rcases sim_all (er := erM Ob Rv Lo Hi) (mm := M) (p0 := clrB Pl M) (o0 := Od) (g0 := clrN Ge M) (O0 := OR) (fun x _ => by simp [erM]) hM (fun x hx => by simp [clrB, hx]) (fun x hx => by simp [clrN, hx]) M with q | ⟨t, u, q1, q2, q3⟩
  · exact Or.inl q
  · have hf := rk_full q3.2.2
    exact Or.inr ⟨t, u, q1, q2, q3.2.1, fun x hx => ((q3.1 x hx).1 (hf x hx)).2⟩
theorem con_ans (h : Sam M D0 D1 L0 L1 G0 G1 Ob Rv Lo Hi) (hM : M ≤ 24) : (arS (erl D0 D1 L0 L1 G0 G1) M OR M).isSome = (plS (erM Ob Rv Lo Hi) M (clrB Pl M) Od (clrN Ge M) M).isSome := by
  rcases ord_both (OR := OR) (Od := Od) (Ge := Ge) (Pl := Pl) h hM with ⟨q1, q2⟩ | ⟨t, u, q1, q2, -⟩ <;> rw [q1, q2] <;> rfl
theorem cmp_ans (h : Sam M D0 D1 L0 L1 G0 G1 Ob Rv Lo Hi) (hM : M ≤ 24) (x y : Int32) : cmpR x y M (erl D0 D1 L0 L1 G0 G1) = cmpR x y M (erM Ob Rv Lo Hi) := by
  unfold cmpR
  by_cases q : inR x M = true ∧ inR y M = true ∧ ¬ cl x = cl y
  · have c1 := inR_cl q.1 (by omega)
    have c2 := inR_cl q.2.1 (by omega)
    rw [if_pos q, if_pos q, erl_erM h c1 c2, erl_erM h c2 c1]
  · rw [if_neg q, if_neg q]
end ORE
