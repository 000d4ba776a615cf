/-! ===== the link graph, as the class walks it ===== -/
def ins (b : Nat → Bool) (v : Nat) : Nat → Bool := fun x => b x || decide (v = x)
theorem ins_t {b : Nat → Bool} {v : Nat} (h : b v = true) : b = ins b v := by
  funext x
  simp only [ins]
  by_cases e : v = x
  · subst e; simp [h]
  · simp [e]
theorem rk_ins {b : Nat → Bool} {v n : Nat} (h : b v = false) (hv : v < n) : rk b n + 1 = rk (ins b v) n := by
  induction n with
  | zero => omega
  | succ n ih =>
    simp only [rk]
    by_cases e : v = n
    · subst e
      have e2 : rk (ins b v) v = rk b v := rk_ext (fun j hj => by simp [ins, show ¬ v = j by omega])
      rw [e2]
      simp [ins, h]
    · have := ih (by omega)
      simp only [ins, e, decide_false, Bool.or_false]
      split <;> omega
def cmp0 (b : Nat → Bool) : Nat → Int32 := fun x => if b x = true then nI x else (-1)
theorem cmp0_t {b : Nat → Bool} {v : Nat} (h : ¬ cmp0 b v = -1) : b v = true := by
  cases hb : b v with
  | true => rfl
  | false => exact absurd (by simp [cmp0, hb]) h
theorem cmp0_f {b : Nat → Bool} {v : Nat} (hv : v < 20) (h : cmp0 b v = -1) : b v = false := by
  cases hb : b v with
  | false => rfl
  | true =>
    simp only [cmp0, hb, if_pos] at h
    exact absurd h (m1_ne (by omega))
theorem cmp0_ins {b : Nat → Bool} {v : Nat} : upd (cmp0 b) v (nI v) = cmp0 (ins b v) := by
  funext x
  simp only [upd, cmp0, ins]
  by_cases e : x = v
  · subst e; simp
  · rw [if_neg e]; simp [Ne.symm e]
/-- the dies of the first k couples -/
def kv (D0 D1 : Nat → Nat) : Nat → Nat → Bool
  | 0 => fun _ => false
  | k + 1 => ins (ins (kv D0 D1 k) (D0 k)) (10 + D1 k)
theorem cmp0_0 (D0 D1 : Nat → Nat) : (fun _ => (-1) : Nat → Int32) = cmp0 (kv D0 D1 0) := by funext x; simp [cmp0, kv]
def jn (f : Nat → Int32) (v w : Nat) : Nat → Int32 := fun x => if f x = f w then f v else f x
def jc (f : Nat → Int32) (g : Int32) (v w : Nat) : Int32 := if f v = f w then g else g - nI 1
theorem jn_eq {f : Nat → Int32} {v w : Nat} (h : f v = f w) : f = jn f v w := by
  funext x
  simp only [jn]
  split
  · next q => rw [q, h]
  · rfl
def jnk (f : Nat → Int32) (v w k : Nat) : Nat → Int32 := fun x => if x < k ∧ f x = f w then f v else f x
theorem jnk_0 (f : Nat → Int32) (v w : Nat) : f = jnk f v w 0 := by funext x; simp [jnk]
theorem jnk_at (f : Nat → Int32) (v w k : Nat) : jnk f v w k k = f k := by simp [jnk]
theorem jnk_t {f : Nat → Int32} {v w k : Nat} (h : f k = f w) : upd (jnk f v w k) k (f v) = jnk f v w (k + 1) := by
  funext x
  simp only [upd, jnk]
  by_cases e : x = k
  · subst e; rw [if_pos rfl, if_pos ⟨by omega, h⟩]
  · rw [if_neg e]
    have q : (x < k) ↔ (x < k + 1) := by omega
    simp only [q]
theorem jnk_f {f : Nat → Int32} {v w k : Nat} (h : ¬ f k = f w) : jnk f v w k = jnk f v w (k + 1) := by
  funext x
  simp only [jnk]
  by_cases e : x = k
  · subst e; rw [if_neg (fun q => h q.2), if_neg (fun q => h q.2)]
  · have q : (x < k) ↔ (x < k + 1) := by omega
    simp only [q]
def cn (D0 D1 : Nat → Nat) (wo : Int32) (mm : Nat) : Nat → Nat → Int32
  | 0 => cmp0 (kv D0 D1 mm)
  | k + 1 => if nI k = wo then cn D0 D1 wo mm k else jn (cn D0 D1 wo mm k) (D0 k) (10 + D1 k)
def ck (D0 D1 : Nat → Nat) (wo : Int32) (mm : Nat) : Nat → Int32
  | 0 => nI (rk (kv D0 D1 mm) 20)
  | k + 1 => if nI k = wo then ck D0 D1 wo mm k else jc (cn D0 D1 wo mm k) (ck D0 D1 wo mm k) (D0 k) (10 + D1 k)
def fa (D0 D1 : Nat → Nat) (mm k : Nat) : Bool := decide (¬ cn D0 D1 (nI k) mm mm (D0 k) = cn D0 D1 (nI k) mm mm (10 + D1 k))
def cq (f : Nat → Int32) (x : Int32) : Nat → Nat
  | 0 => 0
  | k + 1 => cq f x k + (if f k = x then 1 else 0)
theorem cq_le (f : Nat → Int32) (x : Int32) (k : Nat) : cq f x k ≤ k := by
  induction k with
  | zero => simp [cq]
  | succ k ih => simp only [cq]; split <;> omega
def dar (f : Nat → Int32) (v : Nat) : Nat := if f v = -1 then 0 else cq f (f v) 20
/-! ===== the chronology, as the class walks it ===== -/
def ce (er : Nat → Nat → Bool) (x : Nat) : Nat → Nat
  | 0 => 0
  | k + 1 => ce er x k + (if ¬ k = x ∧ er k x = true then 1 else 0)
theorem ce_le (er : Nat → Nat → Bool) (x k : Nat) : ce er x k ≤ k := by
  induction k with
  | zero => simp [ce]
  | succ k ih => simp only [ce]; split <;> omega
def wcE (er : Nat → Nat → Bool) (mm k : Nat) : Nat → Nat := fun x => if x < k then ce er x mm else 0
def wci (er : Nat → Nat → Bool) (mm k i : Nat) : Nat → Nat := fun x => if x < k then ce er x mm else if x = k then ce er k i else 0
theorem wcE_0 (er : Nat → Nat → Bool) (mm : Nat) : (fun _ => nI 0) = nA (wcE er mm 0) := by funext x; simp [nA, wcE]
theorem wci_0 (er : Nat → Nat → Bool) (mm k : Nat) : wcE er mm k = wci er mm k 0 := by
  funext x
  simp only [wcE, wci, ce]
  split
  · rfl
  · split <;> rfl
theorem wci_at (er : Nat → Nat → Bool) (mm k i : Nat) : wci er mm k i k = ce er k i := by simp [wci]
theorem wci_t {er : Nat → Nat → Bool} {mm k i : Nat} (h1 : ¬ i = k) (h2 : er i k = true) : updN (wci er mm k i) k (ce er k i + 1) = wci er mm k (i + 1) := by
  funext x
  simp only [updN, wci]
  by_cases e : x = k
  · subst e; rw [if_pos rfl, if_neg (Nat.lt_irrefl _), if_pos rfl, ce, if_pos ⟨h1, h2⟩]
  · rw [if_neg e]; simp only [if_neg e]
theorem wci_f {er : Nat → Nat → Bool} {mm k i : Nat} (h : ¬ (¬ i = k ∧ er i k = true)) : wci er mm k i = wci er mm k (i + 1) := by
  funext x
  simp only [wci]
  by_cases e : x = k
  · subst e; rw [if_pos rfl, if_pos rfl, ce, if_neg h]; rfl
  · simp only [if_neg e]
theorem wci_e (er : Nat → Nat → Bool) (mm k : Nat) : wci er mm k mm = wcE er mm (k + 1) := by
  funext x
  simp only [wci, wcE]
  by_cases e : x = k
  · subst e; rw [if_neg (Nat.lt_irrefl _), if_pos rfl, if_pos (by omega)]
  · have q : (x < k) ↔ (x < k + 1) := by omega
    simp only [q, if_neg e]
def optI : Option Nat → Int32
  | none => -1
  | some k => nI k
def lowZ (f : Nat → Int32) : Nat → Option Nat
  | 0 => none
  | k + 1 => (lowZ f k).or (if f k = 0 then some k else none)
theorem lowZ_none {f : Nat → Int32} {n : Nat} : lowZ f n = none ↔ ∀ j, j < n → ¬ f j = 0 := by
  induction n with
  | zero => simp [lowZ]
  | succ n ih =>
    simp only [lowZ, Option.or_eq_none_iff, ih]
    constructor
    · rintro ⟨h1, h2⟩ j hj
      by_cases e : j = n
      · subst e; intro q; simp [q] at h2
      · exact h1 j (by omega)
    · intro h
      refine ⟨fun j hj => h j (by omega), ?_⟩
      rw [if_neg (h n (by omega))]
theorem lowZ_some {f : Nat → Int32} {n c : Nat} : lowZ f n = some c ↔ c < n ∧ f c = 0 ∧ ∀ j, j < c → ¬ f j = 0 := by
  induction n with
  | zero => simp [lowZ]
  | succ n ih =>
    simp only [lowZ, Option.or_eq_some_iff, ih, lowZ_none]
    constructor
    · rintro (⟨h1, h2, h3⟩ | ⟨h1, h2⟩)
      · exact ⟨by omega, h2, h3⟩
      · by_cases e : f n = 0
        · rw [if_pos e] at h2
          cases h2
          exact ⟨by omega, e, h1⟩
        · rw [if_neg e] at h2; cases h2
    · rintro ⟨h1, h2, h3⟩
      by_cases e : c = n
      · subst e
        exact Or.inr ⟨h3, by rw [if_pos h2]⟩
      · exact Or.inl ⟨by omega, h2, h3⟩
theorem optI_ne {o : Option Nat} (h : ¬ optI o = -1) : ∃ k, o = some k := by
  cases o with
  | none => exact absurd rfl h
  | some k => exact ⟨k, rfl⟩
def relW (er : Nat → Nat → Bool) (WF : Nat → Int32) (q k : Nat) : Nat → Int32 := fun x => if x < k ∧ ¬ WF x = -1 ∧ er q x = true then WF x - nI 1 else WF x
def relD (er : Nat → Nat → Bool) (WF : Nat → Int32) (DP : Nat → Nat) (q k : Nat) : Nat → Nat := fun x => if x < k ∧ ¬ WF x = -1 ∧ er q x = true then max (DP x) (DP q + 1) else DP x
theorem relW_0 (er : Nat → Nat → Bool) (WF : Nat → Int32) (q : Nat) : WF = relW er WF q 0 := by funext x; simp [relW]
theorem relD_0 (er : Nat → Nat → Bool) (WF : Nat → Int32) (DP : Nat → Nat) (q : Nat) : DP = relD er WF DP q 0 := by funext x; simp [relD]
theorem relW_at (er : Nat → Nat → Bool) (WF : Nat → Int32) (q k : Nat) : relW er WF q k k = WF k := by simp [relW]
theorem relD_at (er : Nat → Nat → Bool) (WF : Nat → Int32) (DP : Nat → Nat) (q k : Nat) : relD er WF DP q k k = DP k := by simp [relD]
theorem relD_q {er : Nat → Nat → Bool} {WF : Nat → Int32} {DP : Nat → Nat} {q k : Nat} (h : WF q = -1) : relD er WF DP q k q = DP q := by simp [relD, h]
theorem relW_t {er : Nat → Nat → Bool} {WF : Nat → Int32} {q k : Nat} (h1 : ¬ WF k = -1) (h2 : er q k = true) : upd (relW er WF q k) k (WF k - nI 1) = relW er WF q (k + 1) := by
  funext x
  simp only [upd, relW]
  by_cases e : x = k
  · subst e; rw [if_pos rfl, if_pos ⟨by omega, h1, h2⟩]
  · rw [if_neg e]
    have z : (x < k) ↔ (x < k + 1) := by omega
    simp only [z]
theorem relW_f {er : Nat → Nat → Bool} {WF : Nat → Int32} {q k : Nat} (h : ¬ (¬ WF k = -1 ∧ er q k = true)) : relW er WF q k = relW er WF q (k + 1) := by
  funext x
  simp only [relW]
  by_cases e : x = k
  · subst e; rw [if_neg (fun z => h z.2), if_neg (fun z => h z.2)]
  · have z : (x < k) ↔ (x < k + 1) := by omega
    simp only [z]
theorem relD_t {er : Nat → Nat → Bool} {WF : Nat → Int32} {DP : Nat → Nat} {q k : Nat} (h1 : ¬ WF k = -1) (h2 : er q k = true) : updN (relD er WF DP q k) k (max (DP k) (DP q + 1)) = relD er WF DP q (k + 1) := by
  funext x
  simp only [updN, relD]
  by_cases e : x = k
  · subst e; rw [if_pos rfl, if_pos ⟨by omega, h1, h2⟩]
  · rw [if_neg e]
    have z : (x < k) ↔ (x < k + 1) := by omega
    simp only [z]
theorem relD_f {er : Nat → Nat → Bool} {WF : Nat → Int32} {DP : Nat → Nat} {q k : Nat} (h : ¬ (¬ WF k = -1 ∧ er q k = true)) : relD er WF DP q k = relD er WF DP q (k + 1) := by
  funext x
  simp only [relD]
  by_cases e : x = k
  · subst e; rw [if_neg (fun z => h z.2), if_neg (fun z => h z.2)]
  · have z : (x < k) ↔ (x < k + 1) := by omega
    simp only [z]
theorem relD_le {er : Nat → Nat → Bool} {WF : Nat → Int32} {DP : Nat → Nat} {q k b : Nat} (h : ∀ x, DP x ≤ b) : ∀ x, relD er WF DP q k x ≤ b + 1 := by
  intro x
  have h1 := h x
  have h2 := h q
  simp only [relD]
  split <;> omega
def arS (er : Nat → Nat → Bool) (mm : Nat) (O0 : Nat → Nat) : Nat → Option ((Nat → Int32) × (Nat → Nat) × (Nat → Nat))
  | 0 => some (nA (wcE er mm mm), O0, fun _ => 0)
  | k + 1 => (arS er mm O0 k).bind fun t => (lowZ t.1 mm).bind fun x => some (relW er (upd t.1 x (-1)) x mm, updN t.2.1 k x, relD er (upd t.1 x (-1)) t.2.2 x mm)
theorem arS_none {er : Nat → Nat → Bool} {mm : Nat} {O0 : Nat → Nat} {i j : Nat} (h : arS er mm O0 i = none) (hij : i ≤ j) : arS er mm O0 j = none := by
  induction j with
  | zero => have : i = 0 := by omega
            subst this; exact h
  | succ j ih =>
    by_cases e : i = j + 1
    · subst e; exact h
    · simp [arS, ih (by omega)]

def rmX3_init : Room := { frames := 1, cells := 1, slots := 20, locals := 24 }
set_option maxHeartbeats 4000000 in
set_option maxRecDepth 100000 in
theorem c_X3_init (l : Launch) (E : ZE) (h0 : Nat)  : ZMv l yX3_init cX3_init 1 rmX3_init E [.ref h0] [(h0, ob 3 [.null, .int (nI 0), .int (nI 0)])] (S := Nat) (fun u => True) (fun u => [(h0, ob 3 [.ref u, .int (nI 0), .int (nI 0)]), (u, ia E 20 (nA (fun _ => 0)))]) := by
  refine z_mv (by decide) (Nat.le_of_ble_eq_true rfl) ?_
  intro p e s m args below meth c A Q ls cx hin hw hl ret
  obtain ⟨hx, hb, hml, hown, hts, hK, hN, hA, hlk⟩ := id cx
  have hl : lv_has ls 1 [(0, .ref h0)] := hl
  refine lv_aload_n hx hb dX3_init_0 rfl (lv_at hl 0 rfl) ?_
  refine z_obj cx hl wd_56 (Nat.le_of_ble_eq_true rfl) (Nat.le_of_ble_eq_true rfl) dX3_init_1 ?_
  refine lv_aload_n hx hb dX3_init_4 rfl (lv_at hl 0 rfl) ?_
  refine lv_bipush (v := nI 20) hx hb dX3_init_5 (by decide) ?_
  refine z_newa (atype := .int) (a0 := (20, .inl (nA (fun _ => 0)))) (k := 0) cx hw 20 rfl (by decide) rfl rfl (fun _ h => by cases h) (fun _ => rfl) (by decide) wd_35 (Nat.le_of_ble_eq_true rfl) (Nat.le_of_ble_eq_true rfl) dX3_init_7 (fun q7 H hw => ?_)
  refine W.widen (k := 1) (n := 20) (Nat.le_of_ble_eq_true rfl) (Nat.le_of_ble_eq_true rfl) ?_
  have hw : ZW E A s [(h0, ob 3 [.null, .int (nI 0), .int (nI 0)]), (q7, ia E 20 (nA (fun _ => 0)))] H [] := hw
  refine z_putF cx hw 0 0 rfl rfl inlX3 tyX3_ok nmX3 (by decide) wd_57 rfl hin rfl rfl rfl (Nat.le_of_ble_eq_true rfl) dX3_init_9 (fun H locs hw => ?_)
  have hw : ZW E A s [(h0, ob 3 [.ref q7, .int (nI 0), .int (nI 0)]), (q7, ia E 20 (nA (fun _ => 0)))] H locs := hw
  refine lv_aload_n hx hb dX3_init_12 rfl (lv_at hl 0 rfl) ?_
  refine lv_iconst (v := nI 0) hx hb dX3_init_13 (by decide) ?_
  refine z_put cx hw 0 1 rfl rfl inlX3 tyX3_ok nmX3 (by decide) wd_58 rfl rfl rfl (Nat.le_of_ble_eq_true rfl) dX3_init_14 (fun H locs hw => ?_)
  have hw : ZW E A s [(h0, ob 3 [.ref q7, .int (nI 0), .int (nI 0)]), (q7, ia E 20 (nA (fun _ => 0)))] H locs := hw
  refine lv_aload_n hx hb dX3_init_17 rfl (lv_at hl 0 rfl) ?_
  refine lv_iconst (v := nI 0) hx hb dX3_init_18 (by decide) ?_
  refine z_put cx hw 0 2 rfl rfl inlX3 tyX3_ok nmX3 (by decide) wd_59 rfl rfl rfl (Nat.le_of_ble_eq_true rfl) dX3_init_19 (fun H locs hw => ?_)
  have hw : ZW E A s [(h0, ob 3 [.ref q7, .int (nI 0), .int (nI 0)]), (q7, ia E 20 (nA (fun _ => 0)))] H locs := hw
  exact ret q7 22 ls H locs dX3_init_22 (trivial) (hw)

def rmX3_vertexOf : Room := { frames := 0, cells := 0, slots := 0, locals := 0 }
set_option maxHeartbeats 4000000 in
set_option maxRecDepth 100000 in
theorem c_X3_vertexOf (l : Launch) (E : ZE) (sd d : Nat)  : ZMi l yX3_vertexOf cX3_vertexOf 2 (some .int) rmX3_vertexOf E [.int (nI sd), .int (nI d)] [] (S := Unit) (fun r _ => r = nI (sd * 10 + d)) (fun _ => []) := by
  refine z_mi (by decide) (Nat.le_of_ble_eq_true rfl) ?_
  intro p e s m args below meth c A Q ls cx hin hw hl ret
  obtain ⟨hx, hb, hml, hown, hts, hK, hN, hA, hlk⟩ := id cx
  have hl : lv_has ls 2 [(0, .int (nI sd)), (1, .int (nI d))] := hl
  refine lv_iload_n hx hb dX3_vertexOf_0 rfl (lv_at hl 0 rfl) ?_
  refine lv_bipush (v := nI 10) hx hb dX3_vertexOf_1 (by decide) ?_
  refine z_imul hx hb (sd * 10) rfl dX3_vertexOf_3 ?_
  refine lv_iload_n hx hb dX3_vertexOf_4 rfl (lv_at hl 1 rfl) ?_
  refine z_iadd hx hb ((sd * 10) + d) rfl dX3_vertexOf_5 ?_
  exact ret (nI ((sd * 10) + d)) () 6 ls s.heap [] dX3_vertexOf_6 (congrArg nI (by omega)) (hw)

def rmX3_obverseOf : Room := { frames := 1, cells := 0, slots := 0, locals := 21 }
set_option maxHeartbeats 4000000 in
set_option maxRecDepth 100000 in
theorem c_X3_obverseOf (l : Launch) (E : ZE) (hC qp qd d0 d1 ql qg : Nat) (D0 D1 : Nat → Nat) (mm : Nat) (k : Nat) (hk : k < 24) : ZMi l yX3_obverseOf cX3_obverseOf 2 (some .int) rmX3_obverseOf E [.ref hC, .int (nI k)] [(hC, ob 1 [.ref qp, .ref qd, .ref ql, .ref qg, .int (nI mm)]), (qd, ra E d0 d1), (d0, ia E 24 (nA D0)), (d1, ia E 24 (nA D1))] (S := Unit) (fun r _ => r = nI (D0 k)) (fun _ => [(hC, ob 1 [.ref qp, .ref qd, .ref ql, .ref qg, .int (nI mm)]), (qd, ra E d0 d1), (d0, ia E 24 (nA D0)), (d1, ia E 24 (nA D1))]) := by
  refine z_mi (by decide) (Nat.le_of_ble_eq_true rfl) ?_
  intro p e s m args below meth c A Q ls cx hin hw hl ret
  obtain ⟨hx, hb, hml, hown, hts, hK, hN, hA, hlk⟩ := id cx
  have hl : lv_has ls 2 [(0, .ref hC), (1, .int (nI k))] := hl
  refine lv_iconst (v := nI 0) hx hb dX3_obverseOf_0 (by decide) ?_
  refine lv_aload_n hx hb dX3_obverseOf_1 rfl (lv_at hl 0 rfl) ?_
  refine z_getN cx hw 0 1 rfl rfl inlX1 (by decide) (nf_X3_42 hN) rfl dX3_obverseOf_2 ?_
  refine lv_iconst (v := nI 0) hx hb dX3_obverseOf_5 (by decide) ?_
  refine z_aald0 cx hw 1 rfl dX3_obverseOf_6 ?_
  refine lv_iload_n hx hb dX3_obverseOf_7 rfl (lv_at hl 1 rfl) ?_
  refine z_aldN cx hw 2 rfl (k) rfl (by omega) (by decide) dX3_obverseOf_8 ?_
  refine z_ri0 (wr := [(hC, ob 1 [.ref qp, .ref qd, .ref ql, .ref qg, .int (nI mm)]), (qd, ra E d0 d1), (d0, ia E 24 (nA D0)), (d1, ia E 24 (nA D1))]) cx hw [] [0, 1, 2, 3] rfl rfl (by decide) (by decide) rfl rfl (z_runS (As := [.int (nI 0), .int (nI (D0 k))]) (rest := []) cx hw [] rfl rfl (c_X3_vertexOf l E 0 (D0 k)  s.heap.size) mf_X3_vertexOf wd_319 ⟨Nat.le_of_ble_eq_true rfl, Nat.le_of_ble_eq_true rfl⟩ hl (Nat.le_of_ble_eq_true rfl) dX3_obverseOf_9 ⟨Nat.le_of_ble_eq_true rfl, Nat.le_of_ble_eq_true rfl⟩) (fun r _ H locs hp hw => ?_)
  have hr_9 := hp
  have hr_9 : r = nI (0 * 10 + (D0 k)) := hr_9
  subst hr_9
  have hw : ZW E A s [(hC, ob 1 [.ref qp, .ref qd, .ref ql, .ref qg, .int (nI mm)]), (qd, ra E d0 d1), (d0, ia E 24 (nA D0)), (d1, ia E 24 (nA D1))] H locs := hw
  exact ret (nI (0 * 10 + (D0 k))) () 12 ls H locs dX3_obverseOf_12 (congrArg nI (by omega)) (hw)

def rmX3_reverseOf : Room := { frames := 1, cells := 0, slots := 0, locals := 21 }
set_option maxHeartbeats 4000000 in
set_option maxRecDepth 100000 in
theorem c_X3_reverseOf (l : Launch) (E : ZE) (hC qp qd d0 d1 ql qg : Nat) (D0 D1 : Nat → Nat) (mm : Nat) (k : Nat) (hk : k < 24) : ZMi l yX3_reverseOf cX3_reverseOf 2 (some .int) rmX3_reverseOf E [.ref hC, .int (nI k)] [(hC, ob 1 [.ref qp, .ref qd, .ref ql, .ref qg, .int (nI mm)]), (qd, ra E d0 d1), (d0, ia E 24 (nA D0)), (d1, ia E 24 (nA D1))] (S := Unit) (fun r _ => r = nI (10 + D1 k)) (fun _ => [(hC, ob 1 [.ref qp, .ref qd, .ref ql, .ref qg, .int (nI mm)]), (qd, ra E d0 d1), (d0, ia E 24 (nA D0)), (d1, ia E 24 (nA D1))]) := by
  refine z_mi (by decide) (Nat.le_of_ble_eq_true rfl) ?_
  intro p e s m args below meth c A Q ls cx hin hw hl ret
  obtain ⟨hx, hb, hml, hown, hts, hK, hN, hA, hlk⟩ := id cx
  have hl : lv_has ls 2 [(0, .ref hC), (1, .int (nI k))] := hl
  refine lv_iconst (v := nI 1) hx hb dX3_reverseOf_0 (by decide) ?_
  refine lv_aload_n hx hb dX3_reverseOf_1 rfl (lv_at hl 0 rfl) ?_
  refine z_getN cx hw 0 1 rfl rfl inlX1 (by decide) (nf_X3_42 hN) rfl dX3_reverseOf_2 ?_
  refine lv_iconst (v := nI 1) hx hb dX3_reverseOf_5 (by decide) ?_
  refine z_aald1 cx hw 1 rfl dX3_reverseOf_6 ?_
  refine lv_iload_n hx hb dX3_reverseOf_7 rfl (lv_at hl 1 rfl) ?_
  refine z_aldN cx hw 3 rfl (k) rfl (by omega) (by decide) dX3_reverseOf_8 ?_
  refine z_ri0 (wr := [(hC, ob 1 [.ref qp, .ref qd, .ref ql, .ref qg, .int (nI mm)]), (qd, ra E d0 d1), (d0, ia E 24 (nA D0)), (d1, ia E 24 (nA D1))]) cx hw [] [0, 1, 2, 3] rfl rfl (by decide) (by decide) rfl rfl (z_runS (As := [.int (nI 1), .int (nI (D1 k))]) (rest := []) cx hw [] rfl rfl (c_X3_vertexOf l E 1 (D1 k)  s.heap.size) mf_X3_vertexOf wd_319 ⟨Nat.le_of_ble_eq_true rfl, Nat.le_of_ble_eq_true rfl⟩ hl (Nat.le_of_ble_eq_true rfl) dX3_reverseOf_9 ⟨Nat.le_of_ble_eq_true rfl, Nat.le_of_ble_eq_true rfl⟩) (fun r _ H locs hp hw => ?_)
  have hr_9 := hp
  have hr_9 : r = nI (1 * 10 + (D1 k)) := hr_9
  subst hr_9
  have hw : ZW E A s [(hC, ob 1 [.ref qp, .ref qd, .ref ql, .ref qg, .int (nI mm)]), (qd, ra E d0 d1), (d0, ia E 24 (nA D0)), (d1, ia E 24 (nA D1))] H locs := hw
  exact ret (nI (1 * 10 + (D1 k))) () 12 ls H locs dX3_reverseOf_12 (congrArg nI (by omega)) (hw)

def rmX3_enterDie : Room := { frames := 0, cells := 0, slots := 0, locals := 0 }
set_option maxHeartbeats 4000000 in
set_option maxRecDepth 100000 in
theorem c_X3_enterDie (l : Launch) (E : ZE) (h0 qC : Nat) (gc : Int32) (b : Nat → Bool) (v : Nat) (hv : v < 20) : ZMv l yX3_enterDie cX3_enterDie 2 rmX3_enterDie E [.ref h0, .int (nI v)] [(h0, ob 3 [.ref qC, .int (nI (rk b 20)), .int gc]), (qC, ia E 20 (cmp0 b))] (S := Unit) (fun _ => True) (fun _ => [(h0, ob 3 [.ref qC, .int (nI (rk (ins b v) 20)), .int gc]), (qC, ia E 20 (cmp0 (ins b v)))]) := by
  refine z_mv (by decide) (Nat.le_of_ble_eq_true rfl) ?_
  intro p e s m args below meth c A Q ls cx hin hw hl ret
  obtain ⟨hx, hb, hml, hown, hts, hK, hN, hA, hlk⟩ := id cx
  have hl : lv_has ls 2 [(0, .ref h0), (1, .int (nI v))] := hl
  refine lv_aload_n hx hb dX3_enterDie_0 rfl (lv_at hl 0 rfl) ?_
  refine z_get cx hw 0 0 rfl rfl inlX3 (by decide) wd_57 rfl dX3_enterDie_1 ?_
  refine lv_iload_n hx hb dX3_enterDie_4 rfl (lv_at hl 1 rfl) ?_
  refine z_ald cx hw 1 rfl (v) rfl (by omega) (by decide) dX3_enterDie_5 ?_
  refine lv_iconst (v := (-1)) hx hb dX3_enterDie_6 (by decide) ?_
  refine lv_icmp_ne (tgt := 27) hx hb dX3_enterDie_7 (by decide) (fun c_7 => ?_) (fun c_7 => ?_)
  · have e_r27_0 : (rk b 20) = (rk (ins b v) 20) := by rw [← ins_t (cmp0_t c_7)]
    have e_r27_1 : (cmp0 b) = (cmp0 (ins b v)) := by rw [← ins_t (cmp0_t c_7)]
    exact ret () 27 ls s.heap [] dX3_enterDie_27 (trivial) ((hw).cast (zc (congrArg (fun z => ((h0, ob 3 [.ref qC, .int (nI z), .int gc]) : Nat × va_E)) e_r27_0) (zc (congrArg (fun z => ((qC, ia E 20 z) : Nat × va_E)) e_r27_1) rfl)))
  · refine lv_aload_n hx hb dX3_enterDie_10 rfl (lv_at hl 0 rfl) ?_
    refine z_get cx hw 0 0 rfl rfl inlX3 (by decide) wd_57 rfl dX3_enterDie_11 ?_
    refine lv_iload_n hx hb dX3_enterDie_14 rfl (lv_at hl 1 rfl) ?_
    refine lv_iload_n hx hb dX3_enterDie_15 rfl (lv_at hl 1 rfl) ?_
    refine z_ast cx hw 1 rfl (v) rfl (by omega) (by decide) dX3_enterDie_16 (fun H locs hw => ?_)
    have hw : ZW E A s [(h0, ob 3 [.ref qC, .int (nI (rk b 20)), .int gc]), (qC, ia E 20 (upd (cmp0 b) v (nI v)))] H locs := hw
    refine lv_aload_n hx hb dX3_enterDie_17 rfl (lv_at hl 0 rfl) ?_
    refine lv_dup hx hb dX3_enterDie_18 rfl ?_
    refine z_get cx hw 0 1 rfl rfl inlX3 (by decide) wd_58 rfl dX3_enterDie_19 ?_
    refine lv_iconst (v := nI 1) hx hb dX3_enterDie_22 (by decide) ?_
    refine z_iadd hx hb ((rk b 20) + 1) rfl dX3_enterDie_23 ?_
    refine z_put cx hw 0 1 rfl rfl inlX3 tyX3_ok nmX3 (by decide) wd_58 rfl rfl rfl (Nat.le_of_ble_eq_true rfl) dX3_enterDie_24 (fun H locs hw => ?_)
    have hw : ZW E A s [(h0, ob 3 [.ref qC, .int (nI ((rk b 20) + 1)), .int gc]), (qC, ia E 20 (upd (cmp0 b) v (nI v)))] H locs := hw
    have e_r27_0 : ((rk b 20) + 1) = (rk (ins b v) 20) := by rw [rk_ins (cmp0_f hv c_7) hv]
    have e_r27_1 : (upd (cmp0 b) v (nI v)) = (cmp0 (ins b v)) := by rw [cmp0_ins]
    exact ret () 27 ls H locs dX3_enterDie_27 (trivial) ((hw).cast (zc (congrArg (fun z => ((h0, ob 3 [.ref qC, .int (nI z), .int gc]) : Nat × va_E)) e_r27_0) (zc (congrArg (fun z => ((qC, ia E 20 z) : Nat × va_E)) e_r27_1) rfl)))

def rmX3_enterDies : Room := { frames := 2, cells := 0, slots := 0, locals := 42 }
set_option maxHeartbeats 4000000 in
set_option maxRecDepth 100000 in
theorem c_X3_enterDies (l : Launch) (E : ZE) (h0 qC : Nat) (Cm : Nat → Int32) (gd : Nat) (gc : Int32) (hC qp qd d0 d1 ql qg : Nat) (D0 D1 : Nat → Nat) (mm : Nat) (hmm : mm ≤ 24) (hD0 : Bd D0) (hD1 : Bd D1) : ZMv l yX3_enterDies cX3_enterDies 3 rmX3_enterDies E [.ref h0, .ref hC] [(h0, ob 3 [.ref qC, .int (nI gd), .int gc]), (qC, ia E 20 Cm), (hC, ob 1 [.ref qp, .ref qd, .ref ql, .ref qg, .int (nI mm)]), (qd, ra E d0 d1), (d0, ia E 24 (nA D0)), (d1, ia E 24 (nA D1))] (S := Unit) (fun _ => True) (fun _ => [(h0, ob 3 [.ref qC, .int (nI (rk (kv D0 D1 mm) 20)), .int gc]), (qC, ia E 20 (cmp0 (kv D0 D1 mm))), (hC, ob 1 [.ref qp, .ref qd, .ref ql, .ref qg, .int (nI mm)]), (qd, ra E d0 d1), (d0, ia E 24 (nA D0)), (d1, ia E 24 (nA D1))]) := by
  refine z_mv (by decide) (Nat.le_of_ble_eq_true rfl) ?_
  intro p e s m args below meth c A Q ls cx hin hw hl ret
  obtain ⟨hx, hb, hml, hown, hts, hK, hN, hA, hlk⟩ := id cx
  have hl : lv_has ls 3 [(0, .ref h0), (1, .ref hC)] := hl
  refine lv_aload_n hx hb dX3_enterDies_0 rfl (lv_at hl 0 rfl) ?_
  refine z_get cx hw 0 0 rfl rfl inlX3 (by decide) wd_57 rfl dX3_enterDies_1 ?_
  refine lv_iconst (v := (-1)) hx hb dX3_enterDies_4 (by decide) ?_
  refine z_rv0 (wr := [(h0, ob 3 [.ref qC, .int (nI gd), .int gc]), (hC, ob 1 [.ref qp, .ref qd, .ref ql, .ref qg, .int (nI mm)]), (qd, ra E d0 d1), (d0, ia E 24 (nA D0)), (d1, ia E 24 (nA D1))]) cx hw [1] [0, 2, 3, 4, 5] rfl rfl (by decide) (by decide) rfl rfl (z_runS (As := [.ref qC, .int ((-1))]) (rest := []) cx hw [1] rfl rfl (c_J7_fill_5317820 l E qC Cm (-1)  s.heap.size) mf_J7_fill_53178 wd_315 ⟨Nat.le_of_ble_eq_true rfl, Nat.le_of_ble_eq_true rfl⟩ hl (Nat.le_of_ble_eq_true rfl) dX3_enterDies_5 ⟨Nat.le_of_ble_eq_true rfl, Nat.le_of_ble_eq_true rfl⟩) (fun _ H locs hp hw => ?_)
  have hw : ZW E A s [(h0, ob 3 [.ref qC, .int (nI gd), .int gc]), (hC, ob 1 [.ref qp, .ref qd, .ref ql, .ref qg, .int (nI mm)]), (qd, ra E d0 d1), (d0, ia E 24 (nA D0)), (d1, ia E 24 (nA D1)), (qC, ia E 20 (fun _ => (-1)))] H locs := hw
  refine lv_aload_n hx hb dX3_enterDies_8 rfl (lv_at hl 0 rfl) ?_
  refine lv_iconst (v := nI 0) hx hb dX3_enterDies_9 (by decide) ?_
  refine z_put cx hw 0 1 rfl rfl inlX3 tyX3_ok nmX3 (by decide) wd_58 rfl rfl rfl (Nat.le_of_ble_eq_true rfl) dX3_enterDies_10 (fun H locs hw => ?_)
  have hw : ZW E A s [(h0, ob 3 [.ref qC, .int (nI 0), .int gc]), (hC, ob 1 [.ref qp, .ref qd, .ref ql, .ref qg, .int (nI mm)]), (qd, ra E d0 d1), (d0, ia E 24 (nA D0)), (d1, ia E 24 (nA D1)), (qC, ia E 20 (fun _ => (-1)))] H locs := hw
  refine lv_iconst (v := nI 0) hx hb dX3_enterDies_13 (by decide) ?_
  refine lv_istore_n (lv' := [(2, .int (nI 0)), (0, .ref h0), (1, .ref hC)]) hx hb dX3_enterDies_14 rfl hl (by decide) rfl (fun ls hl => ?_)
  have loop_15 : ∀ (fuel : Nat) (k : Nat) (hk : k ≤ mm) (hm : mm - k < fuel) (H : Heap) (locs : List Loc) (ls : Array Slot), ZW E A s [(h0, ob 3 [.ref qC, .int (nI (rk (kv D0 D1 k) 20)), .int gc]), (hC, ob 1 [.ref qp, .ref qd, .ref ql, .ref qg, .int (nI mm)]), (qd, ra E d0 d1), (d0, ia E 24 (nA D0)), (d1, ia E 24 (nA D1)), (qC, ia E 20 (cmp0 (kv D0 D1 k)))] H locs → lv_has ls 3 [(0, .ref h0), (1, .ref hC), (2, .int (nI k))] → W p l e rmX3_enterDies s m args below meth c H locs 0 0 Q (F0 m 15 ls []) := by
    intro fuel
    induction fuel with
    | zero => intro k hk hm; exact absurd hm (Nat.not_lt_zero _)
    | succ fuel ih_15 =>
      intro k hk hm H locs ls hw hl
      refine lv_iload_n hx hb dX3_enterDies_15 rfl (lv_at hl 2 rfl) ?_
      refine lv_aload_n hx hb dX3_enterDies_16 rfl (lv_at hl 1 rfl) ?_
      refine z_getN cx hw 1 4 rfl rfl inlX1 (by decide) (nf_X3_26 hN) rfl dX3_enterDies_17 ?_
      refine z_icmp_ge hx hb (by omega) (by omega) 47 dX3_enterDies_20 (by decide) (fun c_20 => ?_) (fun c_20 => ?_)
      · have e_ : k = mm := by omega
        have e_r47_0 : (rk (kv D0 D1 k) 20) = (rk (kv D0 D1 mm) 20) := by rw [e_]
        have e_r47_1 : (cmp0 (kv D0 D1 k)) = (cmp0 (kv D0 D1 mm)) := by rw [e_]
        exact ret () 47 ls H locs dX3_enterDies_47 (trivial) ((hw.perm [0, 5, 1, 2, 3, 4] rfl (by decide)).cast (zc (congrArg (fun z => ((h0, ob 3 [.ref qC, .int (nI z), .int gc]) : Nat × va_E)) e_r47_0) (zc (congrArg (fun z => ((qC, ia E 20 z) : Nat × va_E)) e_r47_1) rfl)))
      · refine lv_aload_n hx hb dX3_enterDies_23 rfl (lv_at hl 0 rfl) ?_
        refine lv_aload_n hx hb dX3_enterDies_24 rfl (lv_at hl 1 rfl) ?_
        refine lv_iload_n hx hb dX3_enterDies_25 rfl (lv_at hl 2 rfl) ?_
        refine z_ri0 (wr := [(h0, ob 3 [.ref qC, .int (nI (rk (kv D0 D1 k) 20)), .int gc]), (qC, ia E 20 (cmp0 (kv D0 D1 k)))]) cx hw [1, 2, 3, 4] [0, 5] rfl rfl (by decide) (by decide) rfl rfl (z_runS (As := [.ref hC, .int (nI k)]) (rest := [.ref h0]) cx hw [1, 2, 3, 4] rfl rfl (c_X3_obverseOf l E hC qp qd d0 d1 ql qg D0 D1 mm k (by omega) H.size) mf_X3_obverseOf wd_316 ⟨Nat.le_of_ble_eq_true rfl, Nat.le_of_ble_eq_true rfl⟩ hl (Nat.le_of_ble_eq_true rfl) dX3_enterDies_26 ⟨Nat.le_of_ble_eq_true rfl, Nat.le_of_ble_eq_true rfl⟩) (fun r _ H locs hp hw => ?_)
        have hr_26 := hp
        have hr_26 : r = nI (D0 k) := hr_26
        subst hr_26
        have hw : ZW E A s [(h0, ob 3 [.ref qC, .int (nI (rk (kv D0 D1 k) 20)), .int gc]), (qC, ia E 20 (cmp0 (kv D0 D1 k))), (hC, ob 1 [.ref qp, .ref qd, .ref ql, .ref qg, .int (nI mm)]), (qd, ra E d0 d1), (d0, ia E 24 (nA D0)), (d1, ia E 24 (nA D1))] H locs := hw
        refine z_rv0 (wr := [(hC, ob 1 [.ref qp, .ref qd, .ref ql, .ref qg, .int (nI mm)]), (qd, ra E d0 d1), (d0, ia E 24 (nA D0)), (d1, ia E 24 (nA D1))]) cx hw [0, 1] [2, 3, 4, 5] rfl rfl (by decide) (by decide) rfl rfl (z_runV (As := [.int (nI (D0 k))]) (rest := []) cx hw rfl rfl [0, 1] rfl rfl (c_X3_enterDie l E h0 qC gc (kv D0 D1 k) (D0 k) (by have := hD0 k; omega) H.size) mf_X3_enterDie wd_322 ⟨Nat.le_of_ble_eq_true rfl, Nat.le_of_ble_eq_true rfl⟩ hl (Nat.le_of_ble_eq_true rfl) dX3_enterDies_29 ⟨Nat.le_of_ble_eq_true rfl, Nat.le_of_ble_eq_true rfl⟩) (fun _ H locs hp hw => ?_)
        have hw : ZW E A s [(hC, ob 1 [.ref qp, .ref qd, .ref ql, .ref qg, .int (nI mm)]), (qd, ra E d0 d1), (d0, ia E 24 (nA D0)), (d1, ia E 24 (nA D1)), (h0, ob 3 [.ref qC, .int (nI (rk (ins (kv D0 D1 k) (D0 k)) 20)), .int gc]), (qC, ia E 20 (cmp0 (ins (kv D0 D1 k) (D0 k))))] H locs := hw
        refine lv_aload_n hx hb dX3_enterDies_32 rfl (lv_at hl 0 rfl) ?_
        refine lv_aload_n hx hb dX3_enterDies_33 rfl (lv_at hl 1 rfl) ?_
        refine lv_iload_n hx hb dX3_enterDies_34 rfl (lv_at hl 2 rfl) ?_
        refine z_ri0 (wr := [(h0, ob 3 [.ref qC, .int (nI (rk (ins (kv D0 D1 k) (D0 k)) 20)), .int gc]), (qC, ia E 20 (cmp0 (ins (kv D0 D1 k) (D0 k))))]) cx hw [0, 1, 2, 3] [4, 5] rfl rfl (by decide) (by decide) rfl rfl (z_runS (As := [.ref hC, .int (nI k)]) (rest := [.ref h0]) cx hw [0, 1, 2, 3] rfl rfl (c_X3_reverseOf l E hC qp qd d0 d1 ql qg D0 D1 mm k (by omega) H.size) mf_X3_reverseOf wd_326 ⟨Nat.le_of_ble_eq_true rfl, Nat.le_of_ble_eq_true rfl⟩ hl (Nat.le_of_ble_eq_true rfl) dX3_enterDies_35 ⟨Nat.le_of_ble_eq_true rfl, Nat.le_of_ble_eq_true rfl⟩) (fun r _ H locs hp hw => ?_)
        have hr_35 := hp
        have hr_35 : r = nI (10 + D1 k) := hr_35
        subst hr_35
        have hw : ZW E A s [(h0, ob 3 [.ref qC, .int (nI (rk (ins (kv D0 D1 k) (D0 k)) 20)), .int gc]), (qC, ia E 20 (cmp0 (ins (kv D0 D1 k) (D0 k)))), (hC, ob 1 [.ref qp, .ref qd, .ref ql, .ref qg, .int (nI mm)]), (qd, ra E d0 d1), (d0, ia E 24 (nA D0)), (d1, ia E 24 (nA D1))] H locs := hw
        refine z_rv0 (wr := [(hC, ob 1 [.ref qp, .ref qd, .ref ql, .ref qg, .int (nI mm)]), (qd, ra E d0 d1), (d0, ia E 24 (nA D0)), (d1, ia E 24 (nA D1))]) cx hw [0, 1] [2, 3, 4, 5] rfl rfl (by decide) (by decide) rfl rfl (z_runV (As := [.int (nI (10 + D1 k))]) (rest := []) cx hw rfl rfl [0, 1] rfl rfl (c_X3_enterDie l E h0 qC gc (ins (kv D0 D1 k) (D0 k)) (10 + D1 k) (by have := hD1 k; omega) H.size) mf_X3_enterDie wd_322 ⟨Nat.le_of_ble_eq_true rfl, Nat.le_of_ble_eq_true rfl⟩ hl (Nat.le_of_ble_eq_true rfl) dX3_enterDies_38 ⟨Nat.le_of_ble_eq_true rfl, Nat.le_of_ble_eq_true rfl⟩) (fun _ H locs hp hw => ?_)
        have hw : ZW E A s [(hC, ob 1 [.ref qp, .ref qd, .ref ql, .ref qg, .int (nI mm)]), (qd, ra E d0 d1), (d0, ia E 24 (nA D0)), (d1, ia E 24 (nA D1)), (h0, ob 3 [.ref qC, .int (nI (rk (ins (ins (kv D0 D1 k) (D0 k)) (10 + D1 k)) 20)), .int gc]), (qC, ia E 20 (cmp0 (ins (ins (kv D0 D1 k) (D0 k)) (10 + D1 k))))] H locs := hw
        refine lv_iinc (v := nI (k + 1)) (lv' := [(2, .int (nI (k + 1))), (0, .ref h0), (1, .ref hC)]) hx hb dX3_enterDies_41 hl (k := 2) rfl (nI_1 _) (by decide) rfl (fun ls hl => ?_)
        refine lv_goto (tgt := 15) hx hb dX3_enterDies_44 (by decide) ?_
        have e_b15_0 : (rk (ins (ins (kv D0 D1 k) (D0 k)) (10 + D1 k)) 20) = (rk (kv D0 D1 (k + 1)) 20) := by rfl
        have e_b15_1 : (cmp0 (ins (ins (kv D0 D1 k) (D0 k)) (10 + D1 k))) = (cmp0 (kv D0 D1 (k + 1))) := by rfl
        exact ih_15 (k + 1) (by omega) (by omega) _ _ ls ((hw.perm [4, 0, 1, 2, 3, 5] rfl (by decide)).cast (zc (congrArg (fun z => ((h0, ob 3 [.ref qC, .int (nI z), .int gc]) : Nat × va_E)) e_b15_0) (zc rfl (zc rfl (zc rfl (zc rfl (zc (congrArg (fun z => ((qC, ia E 20 z) : Nat × va_E)) e_b15_1) rfl))))))) (lv_add (lv_add (lv_add (lv_nil hl) (lv_at hl 0 rfl)) (lv_at hl 2 rfl)) (lv_at hl 1 rfl))
  have e_i15_0 : 0 = (rk (kv D0 D1 0) 20) := by rfl
  have e_i15_1 : (fun _ => (-1)) = (cmp0 (kv D0 D1 0)) := by rw [cmp0_0 D0 D1]
  exact loop_15 _ 0 (by omega) (Nat.lt_succ_self _) _ _ ls ((hw).cast (zc (congrArg (fun z => ((h0, ob 3 [.ref qC, .int (nI z), .int gc]) : Nat × va_E)) e_i15_0) (zc rfl (zc rfl (zc rfl (zc rfl (zc (congrArg (fun z => ((qC, ia E 20 z) : Nat × va_E)) e_i15_1) rfl))))))) (lv_add (lv_add (lv_add (lv_nil hl) (lv_at hl 0 rfl)) (lv_at hl 2 rfl)) (lv_at hl 1 rfl))

def rmX3_join : Room := { frames := 0, cells := 0, slots := 0, locals := 0 }
set_option maxHeartbeats 4000000 in
set_option maxRecDepth 100000 in
theorem c_X3_join (l : Launch) (E : ZE) (h0 qC : Nat) (Cm : Nat → Int32) (gd : Nat) (gc : Int32) (v w : Nat) (hv : v < 20) (hw2 : w < 20) : ZMv l yX3_join cX3_join 6 rmX3_join E [.ref h0, .int (nI v), .int (nI w)] [(h0, ob 3 [.ref qC, .int (nI gd), .int gc]), (qC, ia E 20 Cm)] (S := Unit) (fun _ => True) (fun _ => [(h0, ob 3 [.ref qC, .int (nI gd), .int (jc Cm gc v w)]), (qC, ia E 20 (jn Cm v w))]) := by
  refine z_mv (by decide) (Nat.le_of_ble_eq_true rfl) ?_
  intro p e s m args below meth c A Q ls cx hin hw hl ret
  obtain ⟨hx, hb, hml, hown, hts, hK, hN, hA, hlk⟩ := id cx
  have hl : lv_has ls 6 [(0, .ref h0), (1, .int (nI v)), (2, .int (nI w))] := hl
  refine lv_aload_n hx hb dX3_join_0 rfl (lv_at hl 0 rfl) ?_
  refine z_get cx hw 0 0 rfl rfl inlX3 (by decide) wd_57 rfl dX3_join_1 ?_
  refine lv_iload_n hx hb dX3_join_4 rfl (lv_at hl 1 rfl) ?_
  refine z_ald cx hw 1 rfl (v) rfl (by omega) (by decide) dX3_join_5 ?_
  refine lv_istore_n (lv' := [(3, .int (Cm v)), (0, .ref h0), (1, .int (nI v)), (2, .int (nI w))]) hx hb dX3_join_6 rfl hl (by decide) rfl (fun ls hl => ?_)
  refine lv_aload_n hx hb dX3_join_7 rfl (lv_at hl 1 rfl) ?_
  refine z_get cx hw 0 0 rfl rfl inlX3 (by decide) wd_57 rfl dX3_join_8 ?_
  refine lv_iload_n hx hb dX3_join_11 rfl (lv_at hl 3 rfl) ?_
  refine z_ald cx hw 1 rfl (w) rfl (by omega) (by decide) dX3_join_12 ?_
  refine lv_istore (lv' := [(4, .int (Cm w)), (3, .int (Cm v)), (0, .ref h0), (1, .int (nI v)), (2, .int (nI w))]) hx hb dX3_join_13 hl (by decide) rfl (fun ls hl => ?_)
  refine lv_iload_n hx hb dX3_join_15 rfl (lv_at hl 1 rfl) ?_
  refine lv_iload hx hb dX3_join_16 (lv_at hl 0 rfl) ?_
  refine lv_icmp_ne (tgt := 22) hx hb dX3_join_18 (by decide) (fun c_18 => ?_) (fun c_18 => ?_)
  · refine lv_iconst (v := nI 0) hx hb dX3_join_22 (by decide) ?_
    refine lv_istore (lv' := [(5, .int (nI 0)), (4, .int (Cm w)), (3, .int (Cm v)), (0, .ref h0), (1, .int (nI v)), (2, .int (nI w))]) hx hb dX3_join_23 hl (by decide) rfl (fun ls hl => ?_)
    have loop_25 : ∀ (fuel : Nat) (k : Nat) (hk : k ≤ 20) (hm : 20 - k < fuel) (H : Heap) (locs : List Loc) (ls : Array Slot), ZW E A s [(h0, ob 3 [.ref qC, .int (nI gd), .int gc]), (qC, ia E 20 (jnk Cm v w k))] H locs → lv_has ls 6 [(0, .ref h0), (1, .int (nI v)), (2, .int (nI w)), (3, .int (Cm v)), (4, .int (Cm w)), (5, .int (nI k))] → W p l e rmX3_join s m args below meth c H locs 0 0 Q (F0 m 25 ls []) := by
      intro fuel
      induction fuel with
      | zero => intro k hk hm; exact absurd hm (Nat.not_lt_zero _)
      | succ fuel ih_25 =>
        intro k hk hm H locs ls hw hl
        refine lv_iload hx hb dX3_join_25 (lv_at hl 5 rfl) ?_
        refine lv_bipush (v := nI 20) hx hb dX3_join_27 (by decide) ?_
        refine z_icmp_ge hx hb (by omega) (by decide) 58 dX3_join_29 (by decide) (fun c_29 => ?_) (fun c_29 => ?_)
        · refine lv_aload_n hx hb dX3_join_58 rfl (lv_at hl 0 rfl) ?_
          refine lv_dup hx hb dX3_join_59 rfl ?_
          refine z_get cx hw 0 2 rfl rfl inlX3 (by decide) wd_59 rfl dX3_join_60 ?_
          refine lv_iconst (v := nI 1) hx hb dX3_join_63 (by decide) ?_
          refine lv_isub hx hb dX3_join_64 ?_
          refine z_put cx hw 0 2 rfl rfl inlX3 tyX3_ok nmX3 (by decide) wd_59 rfl rfl rfl (Nat.le_of_ble_eq_true rfl) dX3_join_65 (fun H locs hw => ?_)
          have hw : ZW E A s [(h0, ob 3 [.ref qC, .int (nI gd), .int (gc - (nI 1))]), (qC, ia E 20 (jnk Cm v w k))] H locs := hw
          have hw := hw.ext (g := jn Cm v w) 1 rfl (fun j hj => by have z_ : (j < k ∧ Cm j = Cm w) ↔ (Cm j = Cm w) := ⟨fun q => q.2, fun q => ⟨by omega, q⟩⟩; simp only [jnk, jn, z_])
          have hw : ZW E A s [(h0, ob 3 [.ref qC, .int (nI gd), .int (gc - (nI 1))]), (qC, ia E 20 (jn Cm v w))] H locs := hw
          have e_r68_0 : (gc - (nI 1)) = (jc Cm gc v w) := by rw [jc, if_neg c_18]
          exact ret () 68 ls H locs dX3_join_68 (trivial) ((hw).cast (zc (congrArg (fun z => ((h0, ob 3 [.ref qC, .int (nI gd), .int z]) : Nat × va_E)) e_r68_0) rfl))
        · refine lv_aload_n hx hb dX3_join_32 rfl (lv_at hl 0 rfl) ?_
          refine z_get cx hw 0 0 rfl rfl inlX3 (by decide) wd_57 rfl dX3_join_33 ?_
          refine lv_iload hx hb dX3_join_36 (lv_at hl 5 rfl) ?_
          refine z_ald cx hw 1 rfl (k) rfl (by omega) (by decide) dX3_join_38 ?_
          rw [jnk_at]
          refine lv_iload hx hb dX3_join_39 (lv_at hl 4 rfl) ?_
          refine lv_icmp_ne (tgt := 52) hx hb dX3_join_41 (by decide) (fun c_41 => ?_) (fun c_41 => ?_)
          · refine lv_iinc (v := nI (k + 1)) (lv' := [(5, .int (nI (k + 1))), (0, .ref h0), (1, .int (nI v)), (2, .int (nI w)), (3, .int (Cm v)), (4, .int (Cm w))]) hx hb dX3_join_52 hl (k := 5) rfl (nI_1 _) (by decide) rfl (fun ls hl => ?_)
            refine lv_goto (tgt := 25) hx hb dX3_join_55 (by decide) ?_
            have e_b25_0 : (jnk Cm v w k) = (jnk Cm v w (k + 1)) := by rw [jnk_f c_41]
            exact ih_25 (k + 1) (by omega) (by omega) _ _ ls ((hw).cast (zc rfl (zc (congrArg (fun z => ((qC, ia E 20 z) : Nat × va_E)) e_b25_0) rfl))) (lv_add (lv_add (lv_add (lv_add (lv_add (lv_add (lv_nil hl) (lv_at hl 0 rfl)) (lv_at hl 5 rfl)) (lv_at hl 4 rfl)) (lv_at hl 3 rfl)) (lv_at hl 2 rfl)) (lv_at hl 1 rfl))
          · refine lv_aload_n hx hb dX3_join_44 rfl (lv_at hl 0 rfl) ?_
            refine z_get cx hw 0 0 rfl rfl inlX3 (by decide) wd_57 rfl dX3_join_45 ?_
            refine lv_iload hx hb dX3_join_48 (lv_at hl 5 rfl) ?_
            refine lv_iload_n hx hb dX3_join_50 rfl (lv_at hl 3 rfl) ?_
            refine z_ast cx hw 1 rfl (k) rfl (by omega) (by decide) dX3_join_51 (fun H locs hw => ?_)
            have hw : ZW E A s [(h0, ob 3 [.ref qC, .int (nI gd), .int gc]), (qC, ia E 20 (upd (jnk Cm v w k) k (Cm v)))] H locs := hw
            refine lv_iinc (v := nI (k + 1)) (lv' := [(5, .int (nI (k + 1))), (0, .ref h0), (1, .int (nI v)), (2, .int (nI w)), (3, .int (Cm v)), (4, .int (Cm w))]) hx hb dX3_join_52 hl (k := 5) rfl (nI_1 _) (by decide) rfl (fun ls hl => ?_)
            refine lv_goto (tgt := 25) hx hb dX3_join_55 (by decide) ?_
            have e_b25_0 : (upd (jnk Cm v w k) k (Cm v)) = (jnk Cm v w (k + 1)) := by rw [jnk_t c_41]
            exact ih_25 (k + 1) (by omega) (by omega) _ _ ls ((hw).cast (zc rfl (zc (congrArg (fun z => ((qC, ia E 20 z) : Nat × va_E)) e_b25_0) rfl))) (lv_add (lv_add (lv_add (lv_add (lv_add (lv_add (lv_nil hl) (lv_at hl 0 rfl)) (lv_at hl 5 rfl)) (lv_at hl 4 rfl)) (lv_at hl 3 rfl)) (lv_at hl 2 rfl)) (lv_at hl 1 rfl))
    have e_i25_0 : Cm = (jnk Cm v w 0) := by rw [← jnk_0]
    exact loop_25 _ 0 (by omega) (Nat.lt_succ_self _) _ _ ls ((hw).cast (zc rfl (zc (congrArg (fun z => ((qC, ia E 20 z) : Nat × va_E)) e_i25_0) rfl))) (lv_add (lv_add (lv_add (lv_add (lv_add (lv_add (lv_nil hl) (lv_at hl 0 rfl)) (lv_at hl 1 rfl)) (lv_at hl 2 rfl)) (lv_at hl 5 rfl)) (lv_at hl 4 rfl)) (lv_at hl 3 rfl))
  · have e_r21_0 : gc = (jc Cm gc v w) := by rw [jc, if_pos c_18]
    have e_r21_1 : Cm = (jn Cm v w) := by exact jn_eq c_18
    exact ret () 21 ls s.heap [] dX3_join_21 (trivial) ((hw).cast (zc (congrArg (fun z => ((h0, ob 3 [.ref qC, .int (nI gd), .int z]) : Nat × va_E)) e_r21_0) (zc (congrArg (fun z => ((qC, ia E 20 z) : Nat × va_E)) e_r21_1) rfl)))

def rmX3_connect : Room := { frames := 3, cells := 0, slots := 0, locals := 64 }
set_option maxHeartbeats 4000000 in
set_option maxRecDepth 100000 in
theorem c_X3_connect (l : Launch) (E : ZE) (h0 qC : Nat) (Cm : Nat → Int32) (gd : Nat) (gc : Int32) (hC qp qd d0 d1 ql qg : Nat) (D0 D1 : Nat → Nat) (mm : Nat) (wo : Int32) (hmm : mm ≤ 24) (hD0 : Bd D0) (hD1 : Bd D1) : ZMv l yX3_connect cX3_connect 4 rmX3_connect E [.ref h0, .ref hC, .int wo] [(h0, ob 3 [.ref qC, .int (nI gd), .int gc]), (qC, ia E 20 Cm), (hC, ob 1 [.ref qp, .ref qd, .ref ql, .ref qg, .int (nI mm)]), (qd, ra E d0 d1), (d0, ia E 24 (nA D0)), (d1, ia E 24 (nA D1))] (S := Unit) (fun _ => True) (fun _ => [(h0, ob 3 [.ref qC, .int (nI (rk (kv D0 D1 mm) 20)), .int (ck D0 D1 wo mm mm)]), (qC, ia E 20 (cn D0 D1 wo mm mm)), (hC, ob 1 [.ref qp, .ref qd, .ref ql, .ref qg, .int (nI mm)]), (qd, ra E d0 d1), (d0, ia E 24 (nA D0)), (d1, ia E 24 (nA D1))]) := by
  refine z_mv (by decide) (Nat.le_of_ble_eq_true rfl) ?_
  intro p e s m args below meth c A Q ls cx hin hw hl ret
  obtain ⟨hx, hb, hml, hown, hts, hK, hN, hA, hlk⟩ := id cx
  have hl : lv_has ls 4 [(0, .ref h0), (1, .ref hC), (2, .int wo)] := hl
  refine lv_aload_n hx hb dX3_connect_0 rfl (lv_at hl 0 rfl) ?_
  refine lv_aload_n hx hb dX3_connect_1 rfl (lv_at hl 1 rfl) ?_
  refine z_rv0 (wr := []) cx hw [0, 1, 2, 3, 4, 5] [] rfl rfl (by decide) (by decide) rfl rfl (z_runV (As := [.ref hC]) (rest := []) cx hw rfl rfl [0, 1, 2, 3, 4, 5] rfl rfl (c_X3_enterDies l E h0 qC Cm gd gc hC qp qd d0 d1 ql qg D0 D1 mm (by omega) (hD0) (hD1) s.heap.size) mf_X3_enterDies wd_311 ⟨Nat.le_of_ble_eq_true rfl, Nat.le_of_ble_eq_true rfl⟩ hl (Nat.le_of_ble_eq_true rfl) dX3_connect_2 ⟨Nat.le_of_ble_eq_true rfl, Nat.le_of_ble_eq_true rfl⟩) (fun _ H locs hp hw => ?_)
  have hw : ZW E A s [(h0, ob 3 [.ref qC, .int (nI (rk (kv D0 D1 mm) 20)), .int gc]), (qC, ia E 20 (cmp0 (kv D0 D1 mm))), (hC, ob 1 [.ref qp, .ref qd, .ref ql, .ref qg, .int (nI mm)]), (qd, ra E d0 d1), (d0, ia E 24 (nA D0)), (d1, ia E 24 (nA D1))] H locs := hw
  refine lv_aload_n hx hb dX3_connect_5 rfl (lv_at hl 0 rfl) ?_
  refine lv_aload_n hx hb dX3_connect_6 rfl (lv_at hl 0 rfl) ?_
  refine z_get cx hw 0 1 rfl rfl inlX3 (by decide) wd_58 rfl dX3_connect_7 ?_
  refine z_put cx hw 0 2 rfl rfl inlX3 tyX3_ok nmX3 (by decide) wd_59 rfl rfl rfl (Nat.le_of_ble_eq_true rfl) dX3_connect_10 (fun H locs hw => ?_)
  have hw : ZW E A s [(h0, ob 3 [.ref qC, .int (nI (rk (kv D0 D1 mm) 20)), .int (nI (rk (kv D0 D1 mm) 20))]), (qC, ia E 20 (cmp0 (kv D0 D1 mm))), (hC, ob 1 [.ref qp, .ref qd, .ref ql, .ref qg, .int (nI mm)]), (qd, ra E d0 d1), (d0, ia E 24 (nA D0)), (d1, ia E 24 (nA D1))] H locs := hw
  refine lv_iconst (v := nI 0) hx hb dX3_connect_13 (by decide) ?_
  refine lv_istore_n (lv' := [(3, .int (nI 0)), (0, .ref h0), (1, .ref hC), (2, .int wo)]) hx hb dX3_connect_14 rfl hl (by decide) rfl (fun ls hl => ?_)
  have loop_15 : ∀ (fuel : Nat) (k : Nat) (hk : k ≤ mm) (hm : mm - k < fuel) (H : Heap) (locs : List Loc) (ls : Array Slot), ZW E A s [(h0, ob 3 [.ref qC, .int (nI (rk (kv D0 D1 mm) 20)), .int (ck D0 D1 wo mm k)]), (qC, ia E 20 (cn D0 D1 wo mm k)), (hC, ob 1 [.ref qp, .ref qd, .ref ql, .ref qg, .int (nI mm)]), (qd, ra E d0 d1), (d0, ia E 24 (nA D0)), (d1, ia E 24 (nA D1))] H locs → lv_has ls 4 [(0, .ref h0), (1, .ref hC), (2, .int wo), (3, .int (nI k))] → W p l e rmX3_connect s m args below meth c H locs 0 0 Q (F0 m 15 ls []) := by
    intro fuel
    induction fuel with
    | zero => intro k hk hm; exact absurd hm (Nat.not_lt_zero _)
    | succ fuel ih_15 =>
      intro k hk hm H locs ls hw hl
      refine lv_iload_n hx hb dX3_connect_15 rfl (lv_at hl 3 rfl) ?_
      refine lv_aload_n hx hb dX3_connect_16 rfl (lv_at hl 1 rfl) ?_
      refine z_getN cx hw 2 4 rfl rfl inlX1 (by decide) (nf_X3_26 hN) rfl dX3_connect_17 ?_
      refine z_icmp_ge hx hb (by omega) (by omega) 48 dX3_connect_20 (by decide) (fun c_20 => ?_) (fun c_20 => ?_)
      · have e_ : k = mm := by omega
        have e_r48_0 : (ck D0 D1 wo mm k) = (ck D0 D1 wo mm mm) := by rw [e_]
        have e_r48_1 : (cn D0 D1 wo mm k) = (cn D0 D1 wo mm mm) := by rw [e_]
        exact ret () 48 ls H locs dX3_connect_48 (trivial) ((hw).cast (zc (congrArg (fun z => ((h0, ob 3 [.ref qC, .int (nI (rk (kv D0 D1 mm) 20)), .int z]) : Nat × va_E)) e_r48_0) (zc (congrArg (fun z => ((qC, ia E 20 z) : Nat × va_E)) e_r48_1) rfl)))
      · refine lv_iload_n hx hb dX3_connect_23 rfl (lv_at hl 3 rfl) ?_
        refine lv_iload_n hx hb dX3_connect_24 rfl (lv_at hl 2 rfl) ?_
        refine lv_icmp_eq (tgt := 42) hx hb dX3_connect_25 (by decide) (fun c_25 => ?_) (fun c_25 => ?_)
        · refine lv_iinc (v := nI (k + 1)) (lv' := [(3, .int (nI (k + 1))), (0, .ref h0), (1, .ref hC), (2, .int wo)]) hx hb dX3_connect_42 hl (k := 3) rfl (nI_1 _) (by decide) rfl (fun ls hl => ?_)
          refine lv_goto (tgt := 15) hx hb dX3_connect_45 (by decide) ?_
          have e_b15_0 : (ck D0 D1 wo mm k) = (ck D0 D1 wo mm (k + 1)) := by simp only [ck, if_pos c_25]
          have e_b15_1 : (cn D0 D1 wo mm k) = (cn D0 D1 wo mm (k + 1)) := by simp only [cn, if_pos c_25]
          exact ih_15 (k + 1) (by omega) (by omega) _ _ ls ((hw).cast (zc (congrArg (fun z => ((h0, ob 3 [.ref qC, .int (nI (rk (kv D0 D1 mm) 20)), .int z]) : Nat × va_E)) e_b15_0) (zc (congrArg (fun z => ((qC, ia E 20 z) : Nat × va_E)) e_b15_1) rfl))) (lv_add (lv_add (lv_add (lv_add (lv_nil hl) (lv_at hl 0 rfl)) (lv_at hl 3 rfl)) (lv_at hl 2 rfl)) (lv_at hl 1 rfl))
        · refine lv_aload_n hx hb dX3_connect_28 rfl (lv_at hl 0 rfl) ?_
          refine lv_aload_n hx hb dX3_connect_29 rfl (lv_at hl 1 rfl) ?_
          refine lv_iload_n hx hb dX3_connect_30 rfl (lv_at hl 3 rfl) ?_
          refine z_ri0 (wr := [(h0, ob 3 [.ref qC, .int (nI (rk (kv D0 D1 mm) 20)), .int (ck D0 D1 wo mm k)]), (qC, ia E 20 (cn D0 D1 wo mm k))]) cx hw [2, 3, 4, 5] [0, 1] rfl rfl (by decide) (by decide) rfl rfl (z_runS (As := [.ref hC, .int (nI k)]) (rest := [.ref h0]) cx hw [2, 3, 4, 5] rfl rfl (c_X3_obverseOf l E hC qp qd d0 d1 ql qg D0 D1 mm k (by omega) H.size) mf_X3_obverseOf wd_316 ⟨Nat.le_of_ble_eq_true rfl, Nat.le_of_ble_eq_true rfl⟩ hl (Nat.le_of_ble_eq_true rfl) dX3_connect_31 ⟨Nat.le_of_ble_eq_true rfl, Nat.le_of_ble_eq_true rfl⟩) (fun r _ H locs hp hw => ?_)
          have hr_31 := hp
          have hr_31 : r = nI (D0 k) := hr_31
          subst hr_31
          have hw : ZW E A s [(h0, ob 3 [.ref qC, .int (nI (rk (kv D0 D1 mm) 20)), .int (ck D0 D1 wo mm k)]), (qC, ia E 20 (cn D0 D1 wo mm k)), (hC, ob 1 [.ref qp, .ref qd, .ref ql, .ref qg, .int (nI mm)]), (qd, ra E d0 d1), (d0, ia E 24 (nA D0)), (d1, ia E 24 (nA D1))] H locs := hw
          refine lv_aload_n hx hb dX3_connect_34 rfl (lv_at hl 1 rfl) ?_
          refine lv_iload_n hx hb dX3_connect_35 rfl (lv_at hl 3 rfl) ?_
          refine z_ri0 (wr := [(h0, ob 3 [.ref qC, .int (nI (rk (kv D0 D1 mm) 20)), .int (ck D0 D1 wo mm k)]), (qC, ia E 20 (cn D0 D1 wo mm k))]) cx hw [2, 3, 4, 5] [0, 1] rfl rfl (by decide) (by decide) rfl rfl (z_runS (As := [.ref hC, .int (nI k)]) (rest := [.int (nI (D0 k)), .ref h0]) cx hw [2, 3, 4, 5] rfl rfl (c_X3_reverseOf l E hC qp qd d0 d1 ql qg D0 D1 mm k (by omega) H.size) mf_X3_reverseOf wd_326 ⟨Nat.le_of_ble_eq_true rfl, Nat.le_of_ble_eq_true rfl⟩ hl (Nat.le_of_ble_eq_true rfl) dX3_connect_36 ⟨Nat.le_of_ble_eq_true rfl, Nat.le_of_ble_eq_true rfl⟩) (fun r _ H locs hp hw => ?_)
          have hr_36 := hp
          have hr_36 : r = nI (10 + D1 k) := hr_36
          subst hr_36
          have hw : ZW E A s [(h0, ob 3 [.ref qC, .int (nI (rk (kv D0 D1 mm) 20)), .int (ck D0 D1 wo mm k)]), (qC, ia E 20 (cn D0 D1 wo mm k)), (hC, ob 1 [.ref qp, .ref qd, .ref ql, .ref qg, .int (nI mm)]), (qd, ra E d0 d1), (d0, ia E 24 (nA D0)), (d1, ia E 24 (nA D1))] H locs := hw
          refine z_rv0 (wr := [(hC, ob 1 [.ref qp, .ref qd, .ref ql, .ref qg, .int (nI mm)]), (qd, ra E d0 d1), (d0, ia E 24 (nA D0)), (d1, ia E 24 (nA D1))]) cx hw [0, 1] [2, 3, 4, 5] rfl rfl (by decide) (by decide) rfl rfl (z_runV (As := [.int (nI (D0 k)), .int (nI (10 + D1 k))]) (rest := []) cx hw rfl rfl [0, 1] rfl rfl (c_X3_join l E h0 qC (cn D0 D1 wo mm k) (rk (kv D0 D1 mm) 20) (ck D0 D1 wo mm k) (D0 k) (10 + D1 k) (by have := hD0 k; omega) (by have := hD1 k; omega) H.size) mf_X3_join wd_329 ⟨Nat.le_of_ble_eq_true rfl, Nat.le_of_ble_eq_true rfl⟩ hl (Nat.le_of_ble_eq_true rfl) dX3_connect_39 ⟨Nat.le_of_ble_eq_true rfl, Nat.le_of_ble_eq_true rfl⟩) (fun _ H locs hp hw => ?_)
          have hw : ZW E A s [(hC, ob 1 [.ref qp, .ref qd, .ref ql, .ref qg, .int (nI mm)]), (qd, ra E d0 d1), (d0, ia E 24 (nA D0)), (d1, ia E 24 (nA D1)), (h0, ob 3 [.ref qC, .int (nI (rk (kv D0 D1 mm) 20)), .int (jc (cn D0 D1 wo mm k) (ck D0 D1 wo mm k) (D0 k) (10 + D1 k))]), (qC, ia E 20 (jn (cn D0 D1 wo mm k) (D0 k) (10 + D1 k)))] H locs := hw
          refine lv_iinc (v := nI (k + 1)) (lv' := [(3, .int (nI (k + 1))), (0, .ref h0), (1, .ref hC), (2, .int wo)]) hx hb dX3_connect_42 hl (k := 3) rfl (nI_1 _) (by decide) rfl (fun ls hl => ?_)
          refine lv_goto (tgt := 15) hx hb dX3_connect_45 (by decide) ?_
          have e_b15_0 : (jc (cn D0 D1 wo mm k) (ck D0 D1 wo mm k) (D0 k) (10 + D1 k)) = (ck D0 D1 wo mm (k + 1)) := by simp only [ck, if_neg c_25]
          have e_b15_1 : (jn (cn D0 D1 wo mm k) (D0 k) (10 + D1 k)) = (cn D0 D1 wo mm (k + 1)) := by simp only [cn, if_neg c_25]
          exact ih_15 (k + 1) (by omega) (by omega) _ _ ls ((hw.perm [4, 5, 0, 1, 2, 3] rfl (by decide)).cast (zc (congrArg (fun z => ((h0, ob 3 [.ref qC, .int (nI (rk (kv D0 D1 mm) 20)), .int z]) : Nat × va_E)) e_b15_0) (zc (congrArg (fun z => ((qC, ia E 20 z) : Nat × va_E)) e_b15_1) rfl))) (lv_add (lv_add (lv_add (lv_add (lv_nil hl) (lv_at hl 0 rfl)) (lv_at hl 3 rfl)) (lv_at hl 2 rfl)) (lv_at hl 1 rfl))
  have e_i15_0 : (nI (rk (kv D0 D1 mm) 20)) = (ck D0 D1 wo mm 0) := by rfl
  have e_i15_1 : (cmp0 (kv D0 D1 mm)) = (cn D0 D1 wo mm 0) := by rfl
  exact loop_15 _ 0 (by omega) (Nat.lt_succ_self _) _ _ ls ((hw).cast (zc (congrArg (fun z => ((h0, ob 3 [.ref qC, .int (nI (rk (kv D0 D1 mm) 20)), .int z]) : Nat × va_E)) e_i15_0) (zc (congrArg (fun z => ((qC, ia E 20 z) : Nat × va_E)) e_i15_1) rfl))) (lv_add (lv_add (lv_add (lv_add (lv_nil hl) (lv_at hl 0 rfl)) (lv_at hl 3 rfl)) (lv_at hl 2 rfl)) (lv_at hl 1 rfl))

def rmX3_fallsApartWithout : Room := { frames := 4, cells := 0, slots := 0, locals := 87 }
set_option maxHeartbeats 4000000 in
set_option maxRecDepth 100000 in
theorem c_X3_fallsApartWithout (l : Launch) (E : ZE) (h0 qC : Nat) (Cm : Nat → Int32) (gd : Nat) (gc : Int32) (hC qp qd d0 d1 ql qg : Nat) (D0 D1 : Nat → Nat) (mm : Nat) (k : Nat) (hmm : mm ≤ 24) (hD0 : Bd D0) (hD1 : Bd D1) (hk : k < mm) : ZMi l yX3_fallsApartWithout cX3_fallsApartWithout 3 (some .boolean) rmX3_fallsApartWithout E [.ref h0, .ref hC, .int (nI k)] [(h0, ob 3 [.ref qC, .int (nI gd), .int gc]), (qC, ia E 20 Cm), (hC, ob 1 [.ref qp, .ref qd, .ref ql, .ref qg, .int (nI mm)]), (qd, ra E d0 d1), (d0, ia E 24 (nA D0)), (d1, ia E 24 (nA D1))] (S := Unit) (fun r _ => r = bI (fa D0 D1 mm k)) (fun _ => [(h0, ob 3 [.ref qC, .int (nI (rk (kv D0 D1 mm) 20)), .int (ck D0 D1 (nI k) mm mm)]), (qC, ia E 20 (cn D0 D1 (nI k) mm mm)), (hC, ob 1 [.ref qp, .ref qd, .ref ql, .ref qg, .int (nI mm)]), (qd, ra E d0 d1), (d0, ia E 24 (nA D0)), (d1, ia E 24 (nA D1))]) := by
  refine z_mz (by decide) (Nat.le_of_ble_eq_true rfl) ?_
  intro p e s m args below meth c A Q ls cx hin hw hl ret
  obtain ⟨hx, hb, hml, hown, hts, hK, hN, hA, hlk⟩ := id cx
  have hl : lv_has ls 3 [(0, .ref h0), (1, .ref hC), (2, .int (nI k))] := hl
  refine lv_aload_n hx hb dX3_fallsApartWithout_0 rfl (lv_at hl 0 rfl) ?_
  refine lv_aload_n hx hb dX3_fallsApartWithout_1 rfl (lv_at hl 1 rfl) ?_
  refine lv_iload_n hx hb dX3_fallsApartWithout_2 rfl (lv_at hl 2 rfl) ?_
  refine z_rv0 (wr := []) cx hw [0, 1, 2, 3, 4, 5] [] rfl rfl (by decide) (by decide) rfl rfl (z_runV (As := [.ref hC, .int (nI k)]) (rest := []) cx hw rfl rfl [0, 1, 2, 3, 4, 5] rfl rfl (c_X3_connect l E h0 qC Cm gd gc hC qp qd d0 d1 ql qg D0 D1 mm (nI k) (by omega) (hD0) (hD1) s.heap.size) mf_X3_connect wd_367 ⟨Nat.le_of_ble_eq_true rfl, Nat.le_of_ble_eq_true rfl⟩ hl (Nat.le_of_ble_eq_true rfl) dX3_fallsApartWithout_3 ⟨Nat.le_of_ble_eq_true rfl, Nat.le_of_ble_eq_true rfl⟩) (fun _ H locs hp hw => ?_)
  have hw : ZW E A s [(h0, ob 3 [.ref qC, .int (nI (rk (kv D0 D1 mm) 20)), .int (ck D0 D1 (nI k) mm mm)]), (qC, ia E 20 (cn D0 D1 (nI k) mm mm)), (hC, ob 1 [.ref qp, .ref qd, .ref ql, .ref qg, .int (nI mm)]), (qd, ra E d0 d1), (d0, ia E 24 (nA D0)), (d1, ia E 24 (nA D1))] H locs := hw
  refine lv_aload_n hx hb dX3_fallsApartWithout_6 rfl (lv_at hl 0 rfl) ?_
  refine z_get cx hw 0 0 rfl rfl inlX3 (by decide) wd_57 rfl dX3_fallsApartWithout_7 ?_
  refine lv_aload_n hx hb dX3_fallsApartWithout_10 rfl (lv_at hl 1 rfl) ?_
  refine lv_iload_n hx hb dX3_fallsApartWithout_11 rfl (lv_at hl 2 rfl) ?_
  refine z_ri0 (wr := [(h0, ob 3 [.ref qC, .int (nI (rk (kv D0 D1 mm) 20)), .int (ck D0 D1 (nI k) mm mm)]), (qC, ia E 20 (cn D0 D1 (nI k) mm mm))]) cx hw [2, 3, 4, 5] [0, 1] rfl rfl (by decide) (by decide) rfl rfl (z_runS (As := [.ref hC, .int (nI k)]) (rest := [.ref qC]) cx hw [2, 3, 4, 5] rfl rfl (c_X3_obverseOf l E hC qp qd d0 d1 ql qg D0 D1 mm k (by omega) H.size) mf_X3_obverseOf wd_316 ⟨Nat.le_of_ble_eq_true rfl, Nat.le_of_ble_eq_true rfl⟩ hl (Nat.le_of_ble_eq_true rfl) dX3_fallsApartWithout_12 ⟨Nat.le_of_ble_eq_true rfl, Nat.le_of_ble_eq_true rfl⟩) (fun r _ H locs hp hw => ?_)
  have hr_12 := hp
  have hr_12 : r = nI (D0 k) := hr_12
  subst hr_12
  have hw : ZW E A s [(h0, ob 3 [.ref qC, .int (nI (rk (kv D0 D1 mm) 20)), .int (ck D0 D1 (nI k) mm mm)]), (qC, ia E 20 (cn D0 D1 (nI k) mm mm)), (hC, ob 1 [.ref qp, .ref qd, .ref ql, .ref qg, .int (nI mm)]), (qd, ra E d0 d1), (d0, ia E 24 (nA D0)), (d1, ia E 24 (nA D1))] H locs := hw
  have b_ := hD0 k
  refine z_ald cx hw 1 rfl (D0 k) rfl (by omega) (by decide) dX3_fallsApartWithout_15 ?_
  refine lv_aload_n hx hb dX3_fallsApartWithout_16 rfl (lv_at hl 0 rfl) ?_
  refine z_get cx hw 0 0 rfl rfl inlX3 (by decide) wd_57 rfl dX3_fallsApartWithout_17 ?_
  refine lv_aload_n hx hb dX3_fallsApartWithout_20 rfl (lv_at hl 1 rfl) ?_
  refine lv_iload_n hx hb dX3_fallsApartWithout_21 rfl (lv_at hl 2 rfl) ?_
  refine z_ri0 (wr := [(h0, ob 3 [.ref qC, .int (nI (rk (kv D0 D1 mm) 20)), .int (ck D0 D1 (nI k) mm mm)]), (qC, ia E 20 (cn D0 D1 (nI k) mm mm))]) cx hw [2, 3, 4, 5] [0, 1] rfl rfl (by decide) (by decide) rfl rfl (z_runS (As := [.ref hC, .int (nI k)]) (rest := [.ref qC, .int ((cn D0 D1 (nI k) mm mm) (D0 k))]) cx hw [2, 3, 4, 5] rfl rfl (c_X3_reverseOf l E hC qp qd d0 d1 ql qg D0 D1 mm k (by omega) H.size) mf_X3_reverseOf wd_326 ⟨Nat.le_of_ble_eq_true rfl, Nat.le_of_ble_eq_true rfl⟩ hl (Nat.le_of_ble_eq_true rfl) dX3_fallsApartWithout_22 ⟨Nat.le_of_ble_eq_true rfl, Nat.le_of_ble_eq_true rfl⟩) (fun r _ H locs hp hw => ?_)
  have hr_22 := hp
  have hr_22 : r = nI (10 + D1 k) := hr_22
  subst hr_22
  have hw : ZW E A s [(h0, ob 3 [.ref qC, .int (nI (rk (kv D0 D1 mm) 20)), .int (ck D0 D1 (nI k) mm mm)]), (qC, ia E 20 (cn D0 D1 (nI k) mm mm)), (hC, ob 1 [.ref qp, .ref qd, .ref ql, .ref qg, .int (nI mm)]), (qd, ra E d0 d1), (d0, ia E 24 (nA D0)), (d1, ia E 24 (nA D1))] H locs := hw
  have b2_ := hD1 k
  refine z_ald cx hw 1 rfl (10 + D1 k) rfl (by omega) (by decide) dX3_fallsApartWithout_25 ?_
  refine lv_icmp_eq (tgt := 33) hx hb dX3_fallsApartWithout_26 (by decide) (fun c_26 => ?_) (fun c_26 => ?_)
  · refine lv_iconst (v := nI 0) hx hb dX3_fallsApartWithout_33 (by decide) ?_
    exact ret false () 34 ls H locs dX3_fallsApartWithout_34 (congrArg bI (by exact (decide_eq_false (fun q => q c_26)).symm)) (hw)
  · refine lv_iconst (v := nI 1) hx hb dX3_fallsApartWithout_29 (by decide) ?_
    refine lv_goto (tgt := 34) hx hb dX3_fallsApartWithout_30 (by decide) ?_
    exact ret true () 34 ls H locs dX3_fallsApartWithout_34 (congrArg bI (by exact (decide_eq_true c_26).symm)) (hw)

def rmX3_diesAround : Room := { frames := 1, cells := 0, slots := 0, locals := 21 }
set_option maxHeartbeats 4000000 in
set_option maxRecDepth 100000 in
theorem c_X3_diesAround (l : Launch) (E : ZE) (h0 qC : Nat) (Cm : Nat → Int32) (gd : Nat) (gc : Int32) (sd d : Nat) (hs : sd < 2) (hd2 : d < 10) : ZMi l yX3_diesAround cX3_diesAround 6 (some .int) rmX3_diesAround E [.ref h0, .int (nI sd), .int (nI d)] [(h0, ob 3 [.ref qC, .int (nI gd), .int gc]), (qC, ia E 20 Cm)] (S := Unit) (fun r _ => r = nI (dar Cm (10 * sd + d))) (fun _ => [(h0, ob 3 [.ref qC, .int (nI gd), .int gc]), (qC, ia E 20 Cm)]) := by
  refine z_mi (by decide) (Nat.le_of_ble_eq_true rfl) ?_
  intro p e s m args below meth c A Q ls cx hin hw hl ret
  obtain ⟨hx, hb, hml, hown, hts, hK, hN, hA, hlk⟩ := id cx
  have hl : lv_has ls 6 [(0, .ref h0), (1, .int (nI sd)), (2, .int (nI d))] := hl
  refine lv_aload_n hx hb dX3_diesAround_0 rfl (lv_at hl 0 rfl) ?_
  refine z_get cx hw 0 0 rfl rfl inlX3 (by decide) wd_57 rfl dX3_diesAround_1 ?_
  refine lv_iload_n hx hb dX3_diesAround_4 rfl (lv_at hl 1 rfl) ?_
  refine lv_iload_n hx hb dX3_diesAround_5 rfl (lv_at hl 2 rfl) ?_
  refine z_ri0 (wr := [(h0, ob 3 [.ref qC, .int (nI gd), .int gc]), (qC, ia E 20 Cm)]) cx hw [] [0, 1] rfl rfl (by decide) (by decide) rfl rfl (z_runS (As := [.int (nI sd), .int (nI d)]) (rest := [.ref qC]) cx hw [] rfl rfl (c_X3_vertexOf l E sd d  s.heap.size) mf_X3_vertexOf wd_319 ⟨Nat.le_of_ble_eq_true rfl, Nat.le_of_ble_eq_true rfl⟩ hl (Nat.le_of_ble_eq_true rfl) dX3_diesAround_6 ⟨Nat.le_of_ble_eq_true rfl, Nat.le_of_ble_eq_true rfl⟩) (fun r _ H locs hp hw => ?_)
  have hr_6 := hp
  have hr_6 : r = nI (sd * 10 + d) := hr_6
  subst hr_6
  have hw : ZW E A s [(h0, ob 3 [.ref qC, .int (nI gd), .int gc]), (qC, ia E 20 Cm)] H locs := hw
  refine z_ald cx hw 1 rfl (10 * sd + d) (congrArg nI (by omega)) (by omega) (by decide) dX3_diesAround_9 ?_
  refine lv_istore_n (lv' := [(3, .int (Cm (10 * sd + d))), (0, .ref h0), (1, .int (nI sd)), (2, .int (nI d))]) hx hb dX3_diesAround_10 rfl hl (by decide) rfl (fun ls hl => ?_)
  refine lv_iload_n hx hb dX3_diesAround_11 rfl (lv_at hl 0 rfl) ?_
  refine lv_iconst (v := (-1)) hx hb dX3_diesAround_12 (by decide) ?_
  refine lv_icmp_ne (tgt := 18) hx hb dX3_diesAround_13 (by decide) (fun c_13 => ?_) (fun c_13 => ?_)
  · refine lv_iconst (v := nI 0) hx hb dX3_diesAround_18 (by decide) ?_
    refine lv_istore (lv' := [(4, .int (nI 0)), (3, .int (Cm (10 * sd + d))), (0, .ref h0), (1, .int (nI sd)), (2, .int (nI d))]) hx hb dX3_diesAround_19 hl (by decide) rfl (fun ls hl => ?_)
    refine lv_iconst (v := nI 0) hx hb dX3_diesAround_21 (by decide) ?_
    refine lv_istore (lv' := [(5, .int (nI 0)), (4, .int (nI 0)), (3, .int (Cm (10 * sd + d))), (0, .ref h0), (1, .int (nI sd)), (2, .int (nI d))]) hx hb dX3_diesAround_22 hl (by decide) rfl (fun ls hl => ?_)
    have loop_24 : ∀ (fuel : Nat) (k : Nat) (hk : k ≤ 20) (hm : 20 - k < fuel) (H : Heap) (locs : List Loc) (ls : Array Slot), ZW E A s [(h0, ob 3 [.ref qC, .int (nI gd), .int gc]), (qC, ia E 20 Cm)] H locs → lv_has ls 6 [(0, .ref h0), (1, .int (nI sd)), (2, .int (nI d)), (3, .int (Cm (10 * sd + d))), (4, .int (nI (cq Cm (Cm (10 * sd + d)) k))), (5, .int (nI k))] → W p l e rmX3_diesAround s m args below meth c H locs 0 0 Q (F0 m 24 ls []) := by
      intro fuel
      induction fuel with
      | zero => intro k hk hm; exact absurd hm (Nat.not_lt_zero _)
      | succ fuel ih_24 =>
        intro k hk hm H locs ls hw hl
        refine lv_iload hx hb dX3_diesAround_24 (lv_at hl 5 rfl) ?_
        refine lv_bipush (v := nI 20) hx hb dX3_diesAround_26 (by decide) ?_
        refine z_icmp_ge hx hb (by omega) (by decide) 51 dX3_diesAround_28 (by decide) (fun c_28 => ?_) (fun c_28 => ?_)
        · refine lv_iload hx hb dX3_diesAround_51 (lv_at hl 4 rfl) ?_
          have e_ : k = 20 := by omega
          exact ret (nI (cq Cm (Cm (10 * sd + d)) k)) () 53 ls H locs dX3_diesAround_53 (congrArg nI (by rw [dar, if_neg c_13, e_])) (hw)
        · refine lv_aload_n hx hb dX3_diesAround_31 rfl (lv_at hl 0 rfl) ?_
          refine z_get cx hw 0 0 rfl rfl inlX3 (by decide) wd_57 rfl dX3_diesAround_32 ?_
          refine lv_iload hx hb dX3_diesAround_35 (lv_at hl 5 rfl) ?_
          refine z_ald cx hw 1 rfl (k) rfl (by omega) (by decide) dX3_diesAround_37 ?_
          refine lv_iload_n hx hb dX3_diesAround_38 rfl (lv_at hl 3 rfl) ?_
          refine lv_icmp_ne (tgt := 45) hx hb dX3_diesAround_39 (by decide) (fun c_39 => ?_) (fun c_39 => ?_)
          · refine lv_iinc (v := nI (k + 1)) (lv' := [(5, .int (nI (k + 1))), (0, .ref h0), (1, .int (nI sd)), (2, .int (nI d)), (3, .int (Cm (10 * sd + d))), (4, .int (nI (cq Cm (Cm (10 * sd + d)) k)))]) hx hb dX3_diesAround_45 hl (k := 5) rfl (nI_1 _) (by decide) rfl (fun ls hl => ?_)
            refine lv_goto (tgt := 24) hx hb dX3_diesAround_48 (by decide) ?_
            exact ih_24 (k + 1) (by omega) (by omega) _ _ ls (hw) (lv_add (lv_add (lv_add (lv_add (lv_add (lv_add (lv_nil hl) (lv_at hl 0 rfl)) (lv_eqv (lv_at hl 5 rfl) (zN (by simp [cq, c_39])))) (lv_at hl 4 rfl)) (lv_at hl 3 rfl)) (lv_at hl 2 rfl)) (lv_at hl 1 rfl))
          · refine lv_iinc (v := nI (cq Cm (Cm (10 * sd + d)) k + 1)) (lv' := [(4, .int (nI (cq Cm (Cm (10 * sd + d)) k + 1))), (0, .ref h0), (1, .int (nI sd)), (2, .int (nI d)), (3, .int (Cm (10 * sd + d))), (5, .int (nI k))]) hx hb dX3_diesAround_42 hl (k := 4) rfl (nI_1 _) (by decide) rfl (fun ls hl => ?_)
            refine lv_iinc (v := nI (k + 1)) (lv' := [(5, .int (nI (k + 1))), (4, .int (nI (cq Cm (Cm (10 * sd + d)) k + 1))), (0, .ref h0), (1, .int (nI sd)), (2, .int (nI d)), (3, .int (Cm (10 * sd + d)))]) hx hb dX3_diesAround_45 hl (k := 5) rfl (nI_1 _) (by decide) rfl (fun ls hl => ?_)
            refine lv_goto (tgt := 24) hx hb dX3_diesAround_48 (by decide) ?_
            exact ih_24 (k + 1) (by omega) (by omega) _ _ ls (hw) (lv_add (lv_add (lv_add (lv_add (lv_add (lv_add (lv_nil hl) (lv_at hl 0 rfl)) (lv_eqv (lv_at hl 1 rfl) (zN (by simp [cq, c_39])))) (lv_at hl 5 rfl)) (lv_at hl 4 rfl)) (lv_at hl 3 rfl)) (lv_at hl 2 rfl))
    exact loop_24 _ 0 (by omega) (Nat.lt_succ_self _) _ _ ls (hw) (lv_add (lv_add (lv_add (lv_add (lv_add (lv_add (lv_nil hl) (lv_at hl 0 rfl)) (lv_eqv (lv_at hl 1 rfl) (zN (by rfl)))) (lv_at hl 2 rfl)) (lv_at hl 5 rfl)) (lv_at hl 4 rfl)) (lv_at hl 3 rfl))
  · refine lv_iconst (v := nI 0) hx hb dX3_diesAround_16 (by decide) ?_
    exact ret (nI 0) () 17 ls H locs dX3_diesAround_17 (congrArg nI (by rw [dar, if_pos c_13])) (hw)

def rmX0_init : Room := { frames := 1, cells := 3, slots := 72, locals := 24 }
set_option maxHeartbeats 4000000 in
set_option maxRecDepth 100000 in
theorem c_X0_init (l : Launch) (E : ZE) (h0 : Nat)  : ZMv l yX0_init cX0_init 1 rmX0_init E [.ref h0] [(h0, ob 0 [.null, .null, .null])] (S := Nat × Nat × Nat) (fun u => True) (fun u => [(h0, ob 0 [.ref u.1, .ref u.2.1, .ref u.2.2]), (u.1, ia E 24 (nA (fun _ => 0))), (u.2.1, ia E 24 (nA (fun _ => 0))), (u.2.2, ia E 24 (nA (fun _ => 0)))]) := by
  refine z_mv (by decide) (Nat.le_of_ble_eq_true rfl) ?_
  intro p e s m args below meth c A Q ls cx hin hw hl ret
  obtain ⟨hx, hb, hml, hown, hts, hK, hN, hA, hlk⟩ := id cx
  have hl : lv_has ls 1 [(0, .ref h0)] := hl
  refine lv_aload_n hx hb dX0_init_0 rfl (lv_at hl 0 rfl) ?_
  refine z_obj cx hl wd_62 (Nat.le_of_ble_eq_true rfl) (Nat.le_of_ble_eq_true rfl) dX0_init_1 ?_
  refine lv_aload_n hx hb dX0_init_4 rfl (lv_at hl 0 rfl) ?_
  refine lv_bipush (v := nI 24) hx hb dX0_init_5 (by decide) ?_
  refine z_newa (atype := .int) (a0 := (24, .inl (nA (fun _ => 0)))) (k := 0) cx hw 24 rfl (by decide) rfl rfl (fun _ h => by cases h) (fun _ => rfl) (by decide) wd_35 (Nat.le_of_ble_eq_true rfl) (Nat.le_of_ble_eq_true rfl) dX0_init_7 (fun q7 H hw => ?_)
  refine W.widen (k := 1) (n := 24) (Nat.le_of_ble_eq_true rfl) (Nat.le_of_ble_eq_true rfl) ?_
  have hw : ZW E A s [(h0, ob 0 [.null, .null, .null]), (q7, ia E 24 (nA (fun _ => 0)))] H [] := hw
  refine z_putF cx hw 0 0 rfl rfl inlX0 tyX0_ok nmX0 (by decide) wd_63 rfl hin rfl rfl rfl (Nat.le_of_ble_eq_true rfl) dX0_init_9 (fun H locs hw => ?_)
  have hw : ZW E A s [(h0, ob 0 [.ref q7, .null, .null]), (q7, ia E 24 (nA (fun _ => 0)))] H locs := hw
  refine lv_aload_n hx hb dX0_init_12 rfl (lv_at hl 0 rfl) ?_
  refine lv_bipush (v := nI 24) hx hb dX0_init_13 (by decide) ?_
  refine z_newa (atype := .int) (a0 := (24, .inl (nA (fun _ => 0)))) (k := 0) cx hw 24 rfl (by decide) rfl rfl (fun _ h => by cases h) (fun _ => rfl) (by decide) wd_35 (Nat.le_of_ble_eq_true rfl) (Nat.le_of_ble_eq_true rfl) dX0_init_15 (fun q15 H hw => ?_)
  refine W.widen (k := 2) (n := 48) (Nat.le_of_ble_eq_true rfl) (Nat.le_of_ble_eq_true rfl) ?_
  have hw : ZW E A s [(h0, ob 0 [.ref q7, .null, .null]), (q7, ia E 24 (nA (fun _ => 0))), (q15, ia E 24 (nA (fun _ => 0)))] H locs := hw
  refine z_putF cx hw 0 1 rfl rfl inlX0 tyX0_ok nmX0 (by decide) wd_64 rfl hin rfl rfl rfl (Nat.le_of_ble_eq_true rfl) dX0_init_17 (fun H locs hw => ?_)
  have hw : ZW E A s [(h0, ob 0 [.ref q7, .ref q15, .null]), (q7, ia E 24 (nA (fun _ => 0))), (q15, ia E 24 (nA (fun _ => 0)))] H locs := hw
  refine lv_aload_n hx hb dX0_init_20 rfl (lv_at hl 0 rfl) ?_
  refine lv_bipush (v := nI 24) hx hb dX0_init_21 (by decide) ?_
  refine z_newa (atype := .int) (a0 := (24, .inl (nA (fun _ => 0)))) (k := 0) cx hw 24 rfl (by decide) rfl rfl (fun _ h => by cases h) (fun _ => rfl) (by decide) wd_35 (Nat.le_of_ble_eq_true rfl) (Nat.le_of_ble_eq_true rfl) dX0_init_23 (fun q23 H hw => ?_)
  refine W.widen (k := 3) (n := 72) (Nat.le_of_ble_eq_true rfl) (Nat.le_of_ble_eq_true rfl) ?_
  have hw : ZW E A s [(h0, ob 0 [.ref q7, .ref q15, .null]), (q7, ia E 24 (nA (fun _ => 0))), (q15, ia E 24 (nA (fun _ => 0))), (q23, ia E 24 (nA (fun _ => 0)))] H locs := hw
  refine z_putF cx hw 0 2 rfl rfl inlX0 tyX0_ok nmX0 (by decide) wd_65 rfl hin rfl rfl rfl (Nat.le_of_ble_eq_true rfl) dX0_init_25 (fun H locs hw => ?_)
  have hw : ZW E A s [(h0, ob 0 [.ref q7, .ref q15, .ref q23]), (q7, ia E 24 (nA (fun _ => 0))), (q15, ia E 24 (nA (fun _ => 0))), (q23, ia E 24 (nA (fun _ => 0)))] H locs := hw
  exact ret (q7, q15, q23) 28 ls H locs dX0_init_28 (trivial) (hw)

def rmX0_countEarlier : Room := { frames := 2, cells := 0, slots := 0, locals := 45 }
set_option maxHeartbeats 4000000 in
set_option maxRecDepth 100000 in
theorem c_X0_countEarlier (l : Launch) (E : ZE) (h0 qo qe qw : Nat) (OR DP : Nat → Nat) (WF : Nat → Int32) (hC qp qd d0 d1 ql l0 l1 qg g0 g1 : Nat) (P : Nat → Int32) (D0 D1 L0 L1 G0 G1 : Nat → Nat) (mm : Nat) (hmm : mm ≤ 24) (hB : Bd6 D0 D1 L0 L1 G0 G1) : ZMv l yX0_countEarlier cX0_countEarlier 4 rmX0_countEarlier E [.ref h0, .ref hC] [(h0, ob 0 [.ref qo, .ref qe, .ref qw]), (qo, ia E 24 (nA OR)), (qe, ia E 24 (nA DP)), (qw, ia E 24 WF), (hC, ob 1 [.ref qp, .ref qd, .ref ql, .ref qg, .int (nI mm)]), (qp, ia E 100 P), (qd, ra E d0 d1), (d0, ia E 24 (nA D0)), (d1, ia E 24 (nA D1)), (ql, ra E l0 l1), (l0, ia E 24 (nA L0)), (l1, ia E 24 (nA L1)), (qg, ra E g0 g1), (g0, ia E 24 (nA G0)), (g1, ia E 24 (nA G1))] (S := Unit) (fun _ => True) (fun _ => [(h0, ob 0 [.ref qo, .ref qe, .ref qw]), (qo, ia E 24 (nA OR)), (qe, ia E 24 (nA (fun _ => 0))), (qw, ia E 24 (nA (wcE (erl D0 D1 L0 L1 G0 G1) mm mm))), (hC, ob 1 [.ref qp, .ref qd, .ref ql, .ref qg, .int (nI mm)]), (qp, ia E 100 P), (qd, ra E d0 d1), (d0, ia E 24 (nA D0)), (d1, ia E 24 (nA D1)), (ql, ra E l0 l1), (l0, ia E 24 (nA L0)), (l1, ia E 24 (nA L1)), (qg, ra E g0 g1), (g0, ia E 24 (nA G0)), (g1, ia E 24 (nA G1))]) := by
  refine z_mv (by decide) (Nat.le_of_ble_eq_true rfl) ?_
  intro p e s m args below meth c A Q ls cx hin hw hl ret
  obtain ⟨hx, hb, hml, hown, hts, hK, hN, hA, hlk⟩ := id cx
  have hl : lv_has ls 4 [(0, .ref h0), (1, .ref hC)] := hl
  refine lv_aload_n hx hb dX0_countEarlier_0 rfl (lv_at hl 0 rfl) ?_
  refine z_get cx hw 0 2 rfl rfl inlX0 (by decide) wd_65 rfl dX0_countEarlier_1 ?_
  refine lv_iconst (v := nI 0) hx hb dX0_countEarlier_4 (by decide) ?_
  refine z_rv0 (wr := [(h0, ob 0 [.ref qo, .ref qe, .ref qw]), (qo, ia E 24 (nA OR)), (qe, ia E 24 (nA DP)), (hC, ob 1 [.ref qp, .ref qd, .ref ql, .ref qg, .int (nI mm)]), (qp, ia E 100 P), (qd, ra E d0 d1), (d0, ia E 24 (nA D0)), (d1, ia E 24 (nA D1)), (ql, ra E l0 l1), (l0, ia E 24 (nA L0)), (l1, ia E 24 (nA L1)), (qg, ra E g0 g1), (g0, ia E 24 (nA G0)), (g1, ia E 24 (nA G1))]) cx hw [3] [0, 1, 2, 4, 5, 6, 7, 8, 9, 10, 11, 12, 13, 14] rfl rfl (by decide) (by decide) rfl rfl (z_runS (As := [.ref qw, .int (nI 0)]) (rest := []) cx hw [3] rfl rfl (c_J7_fill_5317824 l E qw WF (nI 0)  s.heap.size) mf_J7_fill_53178 wd_414 ⟨Nat.le_of_ble_eq_true rfl, Nat.le_of_ble_eq_true rfl⟩ hl (Nat.le_of_ble_eq_true rfl) dX0_countEarlier_5 ⟨Nat.le_of_ble_eq_true rfl, Nat.le_of_ble_eq_true rfl⟩) (fun _ H locs hp hw => ?_)
  have hw : ZW E A s [(h0, ob 0 [.ref qo, .ref qe, .ref qw]), (qo, ia E 24 (nA OR)), (qe, ia E 24 (nA DP)), (hC, ob 1 [.ref qp, .ref qd, .ref ql, .ref qg, .int (nI mm)]), (qp, ia E 100 P), (qd, ra E d0 d1), (d0, ia E 24 (nA D0)), (d1, ia E 24 (nA D1)), (ql, ra E l0 l1), (l0, ia E 24 (nA L0)), (l1, ia E 24 (nA L1)), (qg, ra E g0 g1), (g0, ia E 24 (nA G0)), (g1, ia E 24 (nA G1)), (qw, ia E 24 (fun _ => (nI 0)))] H locs := hw
  refine lv_aload_n hx hb dX0_countEarlier_8 rfl (lv_at hl 0 rfl) ?_
  refine z_get cx hw 0 1 rfl rfl inlX0 (by decide) wd_64 rfl dX0_countEarlier_9 ?_
  refine lv_iconst (v := nI 0) hx hb dX0_countEarlier_12 (by decide) ?_
  refine z_rv0 (wr := [(h0, ob 0 [.ref qo, .ref qe, .ref qw]), (qo, ia E 24 (nA OR)), (hC, ob 1 [.ref qp, .ref qd, .ref ql, .ref qg, .int (nI mm)]), (qp, ia E 100 P), (qd, ra E d0 d1), (d0, ia E 24 (nA D0)), (d1, ia E 24 (nA D1)), (ql, ra E l0 l1), (l0, ia E 24 (nA L0)), (l1, ia E 24 (nA L1)), (qg, ra E g0 g1), (g0, ia E 24 (nA G0)), (g1, ia E 24 (nA G1)), (qw, ia E 24 (fun _ => (nI 0)))]) cx hw [2] [0, 1, 3, 4, 5, 6, 7, 8, 9, 10, 11, 12, 13, 14] rfl rfl (by decide) (by decide) rfl rfl (z_runS (As := [.ref qe, .int (nI 0)]) (rest := []) cx hw [2] rfl rfl (c_J7_fill_5317824 l E qe (nA DP) (nI 0)  H.size) mf_J7_fill_53178 wd_414 ⟨Nat.le_of_ble_eq_true rfl, Nat.le_of_ble_eq_true rfl⟩ hl (Nat.le_of_ble_eq_true rfl) dX0_countEarlier_13 ⟨Nat.le_of_ble_eq_true rfl, Nat.le_of_ble_eq_true rfl⟩) (fun _ H locs hp hw => ?_)
  have hw : ZW E A s [(h0, ob 0 [.ref qo, .ref qe, .ref qw]), (qo, ia E 24 (nA OR)), (hC, ob 1 [.ref qp, .ref qd, .ref ql, .ref qg, .int (nI mm)]), (qp, ia E 100 P), (qd, ra E d0 d1), (d0, ia E 24 (nA D0)), (d1, ia E 24 (nA D1)), (ql, ra E l0 l1), (l0, ia E 24 (nA L0)), (l1, ia E 24 (nA L1)), (qg, ra E g0 g1), (g0, ia E 24 (nA G0)), (g1, ia E 24 (nA G1)), (qw, ia E 24 (fun _ => (nI 0))), (qe, ia E 24 (fun _ => (nI 0)))] H locs := hw
  refine lv_iconst (v := nI 0) hx hb dX0_countEarlier_16 (by decide) ?_
  refine lv_istore_n (lv' := [(2, .int (nI 0)), (0, .ref h0), (1, .ref hC)]) hx hb dX0_countEarlier_17 rfl hl (by decide) rfl (fun ls hl => ?_)
  have loop_18 : ∀ (fuel : Nat) (k : Nat) (hk : k ≤ mm) (hm : mm - k < fuel) (H : Heap) (locs : List Loc) (ls : Array Slot), ZW E A s [(h0, ob 0 [.ref qo, .ref qe, .ref qw]), (qo, ia E 24 (nA OR)), (hC, ob 1 [.ref qp, .ref qd, .ref ql, .ref qg, .int (nI mm)]), (qp, ia E 100 P), (qd, ra E d0 d1), (d0, ia E 24 (nA D0)), (d1, ia E 24 (nA D1)), (ql, ra E l0 l1), (l0, ia E 24 (nA L0)), (l1, ia E 24 (nA L1)), (qg, ra E g0 g1), (g0, ia E 24 (nA G0)), (g1, ia E 24 (nA G1)), (qw, ia E 24 (nA (wcE (erl D0 D1 L0 L1 G0 G1) mm k))), (qe, ia E 24 (nA (fun _ => 0)))] H locs → lv_has ls 4 [(0, .ref h0), (1, .ref hC), (2, .int (nI k))] → W p l e rmX0_countEarlier s m args below meth c H locs 0 0 Q (F0 m 18 ls []) := by
    intro fuel
    induction fuel with
    | zero => intro k hk hm; exact absurd hm (Nat.not_lt_zero _)
    | succ fuel ih_18 =>
      intro k hk hm H locs ls hw hl
      refine lv_iload_n hx hb dX0_countEarlier_18 rfl (lv_at hl 2 rfl) ?_
      refine lv_aload_n hx hb dX0_countEarlier_19 rfl (lv_at hl 1 rfl) ?_
      refine z_getN cx hw 2 4 rfl rfl inlX1 (by decide) (nf_X0_25 hN) rfl dX0_countEarlier_20 ?_
      refine z_icmp_ge hx hb (by omega) (by omega) 72 dX0_countEarlier_23 (by decide) (fun c_23 => ?_) (fun c_23 => ?_)
      · have e_ : k = mm := by omega
        have e_r72_0 : (wcE (erl D0 D1 L0 L1 G0 G1) mm k) = (wcE (erl D0 D1 L0 L1 G0 G1) mm mm) := by rw [e_]
        exact ret () 72 ls H locs dX0_countEarlier_72 (trivial) ((hw.perm [0, 1, 14, 13, 2, 3, 4, 5, 6, 7, 8, 9, 10, 11, 12] rfl (by decide)).cast (zc rfl (zc rfl (zc rfl (zc (congrArg (fun z => ((qw, ia E 24 (nA z)) : Nat × va_E)) e_r72_0) rfl)))))
      · refine lv_iconst (v := nI 0) hx hb dX0_countEarlier_26 (by decide) ?_
        refine lv_istore_n (lv' := [(3, .int (nI 0)), (0, .ref h0), (1, .ref hC), (2, .int (nI k))]) hx hb dX0_countEarlier_27 rfl hl (by decide) rfl (fun ls hl => ?_)
        have loop_28 : ∀ (fuel : Nat) (i : Nat) (hi : i ≤ mm) (hm : mm - i < fuel) (H : Heap) (locs : List Loc) (ls : Array Slot), ZW E A s [(h0, ob 0 [.ref qo, .ref qe, .ref qw]), (qo, ia E 24 (nA OR)), (hC, ob 1 [.ref qp, .ref qd, .ref ql, .ref qg, .int (nI mm)]), (qp, ia E 100 P), (qd, ra E d0 d1), (d0, ia E 24 (nA D0)), (d1, ia E 24 (nA D1)), (ql, ra E l0 l1), (l0, ia E 24 (nA L0)), (l1, ia E 24 (nA L1)), (qg, ra E g0 g1), (g0, ia E 24 (nA G0)), (g1, ia E 24 (nA G1)), (qw, ia E 24 (nA (wci (erl D0 D1 L0 L1 G0 G1) mm k i))), (qe, ia E 24 (nA (fun _ => 0)))] H locs → lv_has ls 4 [(0, .ref h0), (1, .ref hC), (2, .int (nI k)), (3, .int (nI i))] → W p l e rmX0_countEarlier s m args below meth c H locs 0 0 Q (F0 m 28 ls []) := by
          intro fuel
          induction fuel with
          | zero => intro i hi hm; exact absurd hm (Nat.not_lt_zero _)
          | succ fuel ih_28 =>
            intro i hi hm H locs ls hw hl
            refine lv_iload_n hx hb dX0_countEarlier_28 rfl (lv_at hl 3 rfl) ?_
            refine lv_aload_n hx hb dX0_countEarlier_29 rfl (lv_at hl 1 rfl) ?_
            refine z_getN cx hw 2 4 rfl rfl inlX1 (by decide) (nf_X0_25 hN) rfl dX0_countEarlier_30 ?_
            refine z_icmp_ge hx hb (by omega) (by omega) 66 dX0_countEarlier_33 (by decide) (fun c_33 => ?_) (fun c_33 => ?_)
            · refine lv_iinc (v := nI (k + 1)) (lv' := [(2, .int (nI (k + 1))), (0, .ref h0), (1, .ref hC), (3, .int (nI i))]) hx hb dX0_countEarlier_66 hl (k := 2) rfl (nI_1 _) (by decide) rfl (fun ls hl => ?_)
              refine lv_goto (tgt := 18) hx hb dX0_countEarlier_69 (by decide) ?_
              have e_ : i = mm := by omega
              have hq_ : wci (erl D0 D1 L0 L1 G0 G1) mm k i = wcE (erl D0 D1 L0 L1 G0 G1) mm (k + 1) := by rw [e_, wci_e]
              have e_b18_0 : (wci (erl D0 D1 L0 L1 G0 G1) mm k i) = (wcE (erl D0 D1 L0 L1 G0 G1) mm (k + 1)) := by exact hq_
              exact ih_18 (k + 1) (by omega) (by omega) _ _ ls ((hw).cast (zc rfl (zc rfl (zc rfl (zc rfl (zc rfl (zc rfl (zc rfl (zc rfl (zc rfl (zc rfl (zc rfl (zc rfl (zc rfl (zc (congrArg (fun z => ((qw, ia E 24 (nA z)) : Nat × va_E)) e_b18_0) rfl))))))))))))))) (lv_add (lv_add (lv_add (lv_nil hl) (lv_at hl 0 rfl)) (lv_at hl 2 rfl)) (lv_at hl 1 rfl))
            · refine lv_iload_n hx hb dX0_countEarlier_36 rfl (lv_at hl 3 rfl) ?_
              refine lv_iload_n hx hb dX0_countEarlier_37 rfl (lv_at hl 2 rfl) ?_
              refine z_icmp_eq hx hb (by omega) (by omega) 60 dX0_countEarlier_38 (by decide) (fun c_38 => ?_) (fun c_38 => ?_)
              · refine lv_iinc (v := nI (i + 1)) (lv' := [(3, .int (nI (i + 1))), (0, .ref h0), (1, .ref hC), (2, .int (nI k))]) hx hb dX0_countEarlier_60 hl (k := 3) rfl (nI_1 _) (by decide) rfl (fun ls hl => ?_)
                refine lv_goto (tgt := 28) hx hb dX0_countEarlier_63 (by decide) ?_
                have e_b28_0 : (wci (erl D0 D1 L0 L1 G0 G1) mm k i) = (wci (erl D0 D1 L0 L1 G0 G1) mm k (i + 1)) := by rw [wci_f (fun q => q.1 c_38)]
                exact ih_28 (i + 1) (by omega) (by omega) _ _ ls ((hw).cast (zc rfl (zc rfl (zc rfl (zc rfl (zc rfl (zc rfl (zc rfl (zc rfl (zc rfl (zc rfl (zc rfl (zc rfl (zc rfl (zc (congrArg (fun z => ((qw, ia E 24 (nA z)) : Nat × va_E)) e_b28_0) rfl))))))))))))))) (lv_add (lv_add (lv_add (lv_add (lv_nil hl) (lv_at hl 0 rfl)) (lv_at hl 3 rfl)) (lv_at hl 2 rfl)) (lv_at hl 1 rfl))
              · refine lv_aload_n hx hb dX0_countEarlier_41 rfl (lv_at hl 1 rfl) ?_
                refine lv_iload_n hx hb dX0_countEarlier_42 rfl (lv_at hl 3 rfl) ?_
                refine lv_iload_n hx hb dX0_countEarlier_43 rfl (lv_at hl 2 rfl) ?_
                refine z_ri0 (wr := [(h0, ob 0 [.ref qo, .ref qe, .ref qw]), (qo, ia E 24 (nA OR)), (qw, ia E 24 (nA (wci (erl D0 D1 L0 L1 G0 G1) mm k i))), (qe, ia E 24 (nA (fun _ => 0)))]) cx hw [2, 3, 4, 5, 6, 7, 8, 9, 10, 11, 12] [0, 1, 13, 14] rfl rfl (by decide) (by decide) rfl rfl (z_runVN (As := [.int (nI i), .int (nI k)]) (rest := []) cx hw rfl rfl [2, 3, 4, 5, 6, 7, 8, 9, 10, 11, 12] rfl rfl (c_X1_isEarlier l E hC qp qd d0 d1 ql l0 l1 qg g0 g1 P D0 D1 L0 L1 G0 G1 mm i k (by omega) (by omega) (hB) H.size) mf_X1_isEarlier (nm_X0_45 hN) ⟨Nat.le_of_ble_eq_true rfl, Nat.le_of_ble_eq_true rfl⟩ hl (Nat.le_of_ble_eq_true rfl) dX0_countEarlier_44 ⟨Nat.le_of_ble_eq_true rfl, Nat.le_of_ble_eq_true rfl⟩) (fun r _ H locs hp hw => ?_)
                have hr_44 := hp
                have hr_44 : r = bI (erl D0 D1 L0 L1 G0 G1 i k) := hr_44
                subst hr_44
                have hw : ZW E A s [(h0, ob 0 [.ref qo, .ref qe, .ref qw]), (qo, ia E 24 (nA OR)), (qw, ia E 24 (nA (wci (erl D0 D1 L0 L1 G0 G1) mm k i))), (qe, ia E 24 (nA (fun _ => 0))), (hC, ob 1 [.ref qp, .ref qd, .ref ql, .ref qg, .int (nI mm)]), (qp, ia E 100 P), (qd, ra E d0 d1), (d0, ia E 24 (nA D0)), (d1, ia E 24 (nA D1)), (ql, ra E l0 l1), (l0, ia E 24 (nA L0)), (l1, ia E 24 (nA L1)), (qg, ra E g0 g1), (g0, ia E 24 (nA G0)), (g1, ia E 24 (nA G1))] H locs := hw
                refine z_ifb_eq hx hb 60 dX0_countEarlier_47 (by decide) (fun c_47 => ?_) (fun c_47 => ?_)
                · refine lv_iinc (v := nI (i + 1)) (lv' := [(3, .int (nI (i + 1))), (0, .ref h0), (1, .ref hC), (2, .int (nI k))]) hx hb dX0_countEarlier_60 hl (k := 3) rfl (nI_1 _) (by decide) rfl (fun ls hl => ?_)
                  refine lv_goto (tgt := 28) hx hb dX0_countEarlier_63 (by decide) ?_
                  have e_b28_0 : (wci (erl D0 D1 L0 L1 G0 G1) mm k i) = (wci (erl D0 D1 L0 L1 G0 G1) mm k (i + 1)) := by rw [wci_f (fun q => by rw [c_47] at q; exact absurd q.2 (by decide))]
                  exact ih_28 (i + 1) (by omega) (by omega) _ _ ls ((hw.perm [0, 1, 4, 5, 6, 7, 8, 9, 10, 11, 12, 13, 14, 2, 3] rfl (by decide)).cast (zc rfl (zc rfl (zc rfl (zc rfl (zc rfl (zc rfl (zc rfl (zc rfl (zc rfl (zc rfl (zc rfl (zc rfl (zc rfl (zc (congrArg (fun z => ((qw, ia E 24 (nA z)) : Nat × va_E)) e_b28_0) rfl))))))))))))))) (lv_add (lv_add (lv_add (lv_add (lv_nil hl) (lv_at hl 0 rfl)) (lv_at hl 3 rfl)) (lv_at hl 2 rfl)) (lv_at hl 1 rfl))
                · refine lv_aload_n hx hb dX0_countEarlier_50 rfl (lv_at hl 0 rfl) ?_
                  refine z_get cx hw 0 2 rfl rfl inlX0 (by decide) wd_65 rfl dX0_countEarlier_51 ?_
                  refine lv_iload_n hx hb dX0_countEarlier_54 rfl (lv_at hl 2 rfl) ?_
                  refine lv_dup2_11 hx hb dX0_countEarlier_55 rfl rfl ?_
                  refine z_aldN cx hw 2 rfl (k) rfl (by omega) (by decide) dX0_countEarlier_56 ?_
                  rw [wci_at]
                  refine lv_iconst (v := nI 1) hx hb dX0_countEarlier_57 (by decide) ?_
                  refine z_iadd hx hb ((ce (erl D0 D1 L0 L1 G0 G1) k i) + 1) rfl dX0_countEarlier_58 ?_
                  refine z_astN cx hw 2 rfl (k) rfl (by omega) (by decide) dX0_countEarlier_59 (fun H locs hw => ?_)
                  have hw : ZW E A s [(h0, ob 0 [.ref qo, .ref qe, .ref qw]), (qo, ia E 24 (nA OR)), (qw, ia E 24 (nA (updN (wci (erl D0 D1 L0 L1 G0 G1) mm k i) k ((ce (erl D0 D1 L0 L1 G0 G1) k i) + 1)))), (qe, ia E 24 (nA (fun _ => 0))), (hC, ob 1 [.ref qp, .ref qd, .ref ql, .ref qg, .int (nI mm)]), (qp, ia E 100 P), (qd, ra E d0 d1), (d0, ia E 24 (nA D0)), (d1, ia E 24 (nA D1)), (ql, ra E l0 l1), (l0, ia E 24 (nA L0)), (l1, ia E 24 (nA L1)), (qg, ra E g0 g1), (g0, ia E 24 (nA G0)), (g1, ia E 24 (nA G1))] H locs := hw
                  refine lv_iinc (v := nI (i + 1)) (lv' := [(3, .int (nI (i + 1))), (0, .ref h0), (1, .ref hC), (2, .int (nI k))]) hx hb dX0_countEarlier_60 hl (k := 3) rfl (nI_1 _) (by decide) rfl (fun ls hl => ?_)
                  refine lv_goto (tgt := 28) hx hb dX0_countEarlier_63 (by decide) ?_
                  have e_b28_0 : (updN (wci (erl D0 D1 L0 L1 G0 G1) mm k i) k ((ce (erl D0 D1 L0 L1 G0 G1) k i) + 1)) = (wci (erl D0 D1 L0 L1 G0 G1) mm k (i + 1)) := by rw [wci_t c_38 c_47]
                  exact ih_28 (i + 1) (by omega) (by omega) _ _ ls ((hw.perm [0, 1, 4, 5, 6, 7, 8, 9, 10, 11, 12, 13, 14, 2, 3] rfl (by decide)).cast (zc rfl (zc rfl (zc rfl (zc rfl (zc rfl (zc rfl (zc rfl (zc rfl (zc rfl (zc rfl (zc rfl (zc rfl (zc rfl (zc (congrArg (fun z => ((qw, ia E 24 (nA z)) : Nat × va_E)) e_b28_0) rfl))))))))))))))) (lv_add (lv_add (lv_add (lv_add (lv_nil hl) (lv_at hl 0 rfl)) (lv_at hl 3 rfl)) (lv_at hl 2 rfl)) (lv_at hl 1 rfl))
        have e_i28_0 : (wcE (erl D0 D1 L0 L1 G0 G1) mm k) = (wci (erl D0 D1 L0 L1 G0 G1) mm k 0) := by rw [wci_0]
        exact loop_28 _ 0 (by omega) (Nat.lt_succ_self _) _ _ ls ((hw).cast (zc rfl (zc rfl (zc rfl (zc rfl (zc rfl (zc rfl (zc rfl (zc rfl (zc rfl (zc rfl (zc rfl (zc rfl (zc rfl (zc (congrArg (fun z => ((qw, ia E 24 (nA z)) : Nat × va_E)) e_i28_0) rfl))))))))))))))) (lv_add (lv_add (lv_add (lv_add (lv_nil hl) (lv_at hl 0 rfl)) (lv_at hl 3 rfl)) (lv_at hl 2 rfl)) (lv_at hl 1 rfl))
  have e_i18_0 : (fun _ => (nI 0)) = (nA (wcE (erl D0 D1 L0 L1 G0 G1) mm 0)) := by rw [wcE_0 (erl D0 D1 L0 L1 G0 G1) mm]
  have e_i18_1 : (fun _ => (nI 0)) = (nA (fun _ => 0)) := by rfl
  exact loop_18 _ 0 (by omega) (Nat.lt_succ_self _) _ _ ls ((hw).cast (zc rfl (zc rfl (zc rfl (zc rfl (zc rfl (zc rfl (zc rfl (zc rfl (zc rfl (zc rfl (zc rfl (zc rfl (zc rfl (zc (congrArg (fun z => ((qw, ia E 24 z) : Nat × va_E)) e_i18_0) (zc (congrArg (fun z => ((qe, ia E 24 z) : Nat × va_E)) e_i18_1) rfl)))))))))))))))) (lv_add (lv_add (lv_add (lv_nil hl) (lv_at hl 0 rfl)) (lv_at hl 2 rfl)) (lv_at hl 1 rfl))

def rmX0_lowestThatWaitsForNone : Room := { frames := 0, cells := 0, slots := 0, locals := 0 }
set_option maxHeartbeats 4000000 in
set_option maxRecDepth 100000 in
theorem c_X0_lowestThatWaitsForNone (l : Launch) (E : ZE) (h0 qo qe qw : Nat) (OR DP : Nat → Nat) (WF : Nat → Int32) (mm : Nat) (hmm : mm ≤ 24) : ZMi l yX0_lowestThatWaitsForNone cX0_lowestThatWaitsForNone 3 (some .int) rmX0_lowestThatWaitsForNone E [.ref h0, .int (nI mm)] [(h0, ob 0 [.ref qo, .ref qe, .ref qw]), (qo, ia E 24 (nA OR)), (qe, ia E 24 (nA DP)), (qw, ia E 24 WF)] (S := Unit) (fun r _ => r = optI (lowZ WF mm)) (fun _ => [(h0, ob 0 [.ref qo, .ref qe, .ref qw]), (qo, ia E 24 (nA OR)), (qe, ia E 24 (nA DP)), (qw, ia E 24 WF)]) := by
  refine z_mi (by decide) (Nat.le_of_ble_eq_true rfl) ?_
  intro p e s m args below meth c A Q ls cx hin hw hl ret
  obtain ⟨hx, hb, hml, hown, hts, hK, hN, hA, hlk⟩ := id cx
  have hl : lv_has ls 3 [(0, .ref h0), (1, .int (nI mm))] := hl
  refine lv_iconst (v := nI 0) hx hb dX0_lowestThatWaitsForNone_0 (by decide) ?_
  refine lv_istore_n (lv' := [(2, .int (nI 0)), (0, .ref h0), (1, .int (nI mm))]) hx hb dX0_lowestThatWaitsForNone_1 rfl hl (by decide) rfl (fun ls hl => ?_)
  have loop_2 : ∀ (fuel : Nat) (k : Nat) (hk : k ≤ mm) (hI : ∀ j, j < k → ¬ WF j = 0) (hm : mm - k < fuel) (H : Heap) (locs : List Loc) (ls : Array Slot), ZW E A s [(h0, ob 0 [.ref qo, .ref qe, .ref qw]), (qo, ia E 24 (nA OR)), (qe, ia E 24 (nA DP)), (qw, ia E 24 WF)] H locs → lv_has ls 3 [(0, .ref h0), (1, .int (nI mm)), (2, .int (nI k))] → W p l e rmX0_lowestThatWaitsForNone s m args below meth c H locs 0 0 Q (F0 m 2 ls []) := by
    intro fuel
    induction fuel with
    | zero => intro k hk hI hm; exact absurd hm (Nat.not_lt_zero _)
    | succ fuel ih_2 =>
      intro k hk hI hm H locs ls hw hl
      refine lv_iload_n hx hb dX0_lowestThatWaitsForNone_2 rfl (lv_at hl 2 rfl) ?_
      refine lv_iload_n hx hb dX0_lowestThatWaitsForNone_3 rfl (lv_at hl 1 rfl) ?_
      refine z_icmp_ge hx hb (by omega) (by omega) 24 dX0_lowestThatWaitsForNone_4 (by decide) (fun c_4 => ?_) (fun c_4 => ?_)
      · refine lv_iconst (v := (-1)) hx hb dX0_lowestThatWaitsForNone_24 (by decide) ?_
        have e_ : k = mm := by omega
        rw [e_] at hI
        exact ret ((-1)) () 25 ls H locs dX0_lowestThatWaitsForNone_25 (by rw [lowZ_none.mpr hI]; rfl) (hw)
      · refine lv_aload_n hx hb dX0_lowestThatWaitsForNone_7 rfl (lv_at hl 0 rfl) ?_
        refine z_get cx hw 0 2 rfl rfl inlX0 (by decide) wd_65 rfl dX0_lowestThatWaitsForNone_8 ?_
        refine lv_iload_n hx hb dX0_lowestThatWaitsForNone_11 rfl (lv_at hl 2 rfl) ?_
        refine z_ald cx hw 3 rfl (k) rfl (by omega) (by decide) dX0_lowestThatWaitsForNone_12 ?_
        refine lv_if_ne (tgt := 18) hx hb dX0_lowestThatWaitsForNone_13 (by decide) (fun c_13 => ?_) (fun c_13 => ?_)
        · refine lv_iinc (v := nI (k + 1)) (lv' := [(2, .int (nI (k + 1))), (0, .ref h0), (1, .int (nI mm))]) hx hb dX0_lowestThatWaitsForNone_18 hl (k := 2) rfl (nI_1 _) (by decide) rfl (fun ls hl => ?_)
          refine lv_goto (tgt := 2) hx hb dX0_lowestThatWaitsForNone_21 (by decide) ?_
          exact ih_2 (k + 1) (by omega) (fun j hj => by
                    by_cases e_ : j = k
                    · rw [e_]; exact c_13
                    · exact hI j (by omega)) (by omega) _ _ ls (hw) (lv_add (lv_add (lv_add (lv_nil hl) (lv_at hl 0 rfl)) (lv_at hl 2 rfl)) (lv_at hl 1 rfl))
        · refine lv_iload_n hx hb dX0_lowestThatWaitsForNone_16 rfl (lv_at hl 2 rfl) ?_
          exact ret (nI k) () 17 ls H locs dX0_lowestThatWaitsForNone_17 (by rw [(lowZ_some (n := mm) (c := k)).mpr ⟨c_4, c_13, hI⟩]; rfl) (hw)
  exact loop_2 _ 0 (by omega) (fun j hj => absurd hj (Nat.not_lt_zero _)) (Nat.lt_succ_self _) _ _ ls (hw) (lv_add (lv_add (lv_add (lv_nil hl) (lv_at hl 0 rfl)) (lv_at hl 2 rfl)) (lv_at hl 1 rfl))

def rmX0_releaseLater : Room := { frames := 2, cells := 0, slots := 0, locals := 45 }
set_option maxHeartbeats 4000000 in
set_option maxRecDepth 100000 in
theorem c_X0_releaseLater (l : Launch) (E : ZE) (h0 qo qe qw : Nat) (OR DP : Nat → Nat) (WF : Nat → Int32) (hC qp qd d0 d1 ql l0 l1 qg g0 g1 : Nat) (P : Nat → Int32) (D0 D1 L0 L1 G0 G1 : Nat → Nat) (mm : Nat) (v : Nat) (hmm : mm ≤ 24) (hB : Bd6 D0 D1 L0 L1 G0 G1) (hv : v < mm) (hpl : WF v = -1) (hd : ∀ x, DP x ≤ 30) : ZMv l yX0_releaseLater cX0_releaseLater 4 rmX0_releaseLater E [.ref h0, .ref hC, .int (nI v)] [(h0, ob 0 [.ref qo, .ref qe, .ref qw]), (qo, ia E 24 (nA OR)), (qe, ia E 24 (nA DP)), (qw, ia E 24 WF), (hC, ob 1 [.ref qp, .ref qd, .ref ql, .ref qg, .int (nI mm)]), (qp, ia E 100 P), (qd, ra E d0 d1), (d0, ia E 24 (nA D0)), (d1, ia E 24 (nA D1)), (ql, ra E l0 l1), (l0, ia E 24 (nA L0)), (l1, ia E 24 (nA L1)), (qg, ra E g0 g1), (g0, ia E 24 (nA G0)), (g1, ia E 24 (nA G1))] (S := Unit) (fun _ => True) (fun _ => [(h0, ob 0 [.ref qo, .ref qe, .ref qw]), (qo, ia E 24 (nA OR)), (qe, ia E 24 (nA (relD (erl D0 D1 L0 L1 G0 G1) WF DP v mm))), (qw, ia E 24 (relW (erl D0 D1 L0 L1 G0 G1) WF v mm)), (hC, ob 1 [.ref qp, .ref qd, .ref ql, .ref qg, .int (nI mm)]), (qp, ia E 100 P), (qd, ra E d0 d1), (d0, ia E 24 (nA D0)), (d1, ia E 24 (nA D1)), (ql, ra E l0 l1), (l0, ia E 24 (nA L0)), (l1, ia E 24 (nA L1)), (qg, ra E g0 g1), (g0, ia E 24 (nA G0)), (g1, ia E 24 (nA G1))]) := by
  refine z_mv (by decide) (Nat.le_of_ble_eq_true rfl) ?_
  intro p e s m args below meth c A Q ls cx hin hw hl ret
  obtain ⟨hx, hb, hml, hown, hts, hK, hN, hA, hlk⟩ := id cx
  have hl : lv_has ls 4 [(0, .ref h0), (1, .ref hC), (2, .int (nI v))] := hl
  refine lv_iconst (v := nI 0) hx hb dX0_releaseLater_0 (by decide) ?_
  refine lv_istore_n (lv' := [(3, .int (nI 0)), (0, .ref h0), (1, .ref hC), (2, .int (nI v))]) hx hb dX0_releaseLater_1 rfl hl (by decide) rfl (fun ls hl => ?_)
  have loop_2 : ∀ (fuel : Nat) (k : Nat) (hk : k ≤ mm) (hm : mm - k < fuel) (H : Heap) (locs : List Loc) (ls : Array Slot), ZW E A s [(h0, ob 0 [.ref qo, .ref qe, .ref qw]), (qo, ia E 24 (nA OR)), (qe, ia E 24 (nA (relD (erl D0 D1 L0 L1 G0 G1) WF DP v k))), (qw, ia E 24 (relW (erl D0 D1 L0 L1 G0 G1) WF v k)), (hC, ob 1 [.ref qp, .ref qd, .ref ql, .ref qg, .int (nI mm)]), (qp, ia E 100 P), (qd, ra E d0 d1), (d0, ia E 24 (nA D0)), (d1, ia E 24 (nA D1)), (ql, ra E l0 l1), (l0, ia E 24 (nA L0)), (l1, ia E 24 (nA L1)), (qg, ra E g0 g1), (g0, ia E 24 (nA G0)), (g1, ia E 24 (nA G1))] H locs → lv_has ls 4 [(0, .ref h0), (1, .ref hC), (2, .int (nI v)), (3, .int (nI k))] → W p l e rmX0_releaseLater s m args below meth c H locs 0 0 Q (F0 m 2 ls []) := by
    intro fuel
    induction fuel with
    | zero => intro k hk hm; exact absurd hm (Nat.not_lt_zero _)
    | succ fuel ih_2 =>
      intro k hk hm H locs ls hw hl
      refine lv_iload_n hx hb dX0_releaseLater_2 rfl (lv_at hl 3 rfl) ?_
      refine lv_aload_n hx hb dX0_releaseLater_3 rfl (lv_at hl 1 rfl) ?_
      refine z_getN cx hw 4 4 rfl rfl inlX1 (by decide) (nf_X0_25 hN) rfl dX0_releaseLater_4 ?_
      refine z_icmp_ge hx hb (by omega) (by omega) 68 dX0_releaseLater_7 (by decide) (fun c_7 => ?_) (fun c_7 => ?_)
      · have e_ : k = mm := by omega
        have e_r68_0 : (relD (erl D0 D1 L0 L1 G0 G1) WF DP v k) = (relD (erl D0 D1 L0 L1 G0 G1) WF DP v mm) := by rw [e_]
        have e_r68_1 : (relW (erl D0 D1 L0 L1 G0 G1) WF v k) = (relW (erl D0 D1 L0 L1 G0 G1) WF v mm) := by rw [e_]
        exact ret () 68 ls H locs dX0_releaseLater_68 (trivial) ((hw).cast (zc rfl (zc rfl (zc (congrArg (fun z => ((qe, ia E 24 (nA z)) : Nat × va_E)) e_r68_0) (zc (congrArg (fun z => ((qw, ia E 24 z) : Nat × va_E)) e_r68_1) rfl)))))
      · refine lv_aload_n hx hb dX0_releaseLater_10 rfl (lv_at hl 0 rfl) ?_
        refine z_get cx hw 0 2 rfl rfl inlX0 (by decide) wd_65 rfl dX0_releaseLater_11 ?_
        refine lv_iload_n hx hb dX0_releaseLater_14 rfl (lv_at hl 3 rfl) ?_
        refine z_ald cx hw 3 rfl (k) rfl (by omega) (by decide) dX0_releaseLater_15 ?_
        rw [relW_at]
        refine lv_iconst (v := (-1)) hx hb dX0_releaseLater_16 (by decide) ?_
        refine lv_icmp_eq (tgt := 62) hx hb dX0_releaseLater_17 (by decide) (fun c_17 => ?_) (fun c_17 => ?_)
        · refine lv_iinc (v := nI (k + 1)) (lv' := [(3, .int (nI (k + 1))), (0, .ref h0), (1, .ref hC), (2, .int (nI v))]) hx hb dX0_releaseLater_62 hl (k := 3) rfl (nI_1 _) (by decide) rfl (fun ls hl => ?_)
          refine lv_goto (tgt := 2) hx hb dX0_releaseLater_65 (by decide) ?_
          have e_b2_0 : (relD (erl D0 D1 L0 L1 G0 G1) WF DP v k) = (relD (erl D0 D1 L0 L1 G0 G1) WF DP v (k + 1)) := by rw [relD_f (fun z => z.1 c_17)]
          have e_b2_1 : (relW (erl D0 D1 L0 L1 G0 G1) WF v k) = (relW (erl D0 D1 L0 L1 G0 G1) WF v (k + 1)) := by rw [relW_f (fun z => z.1 c_17)]
          exact ih_2 (k + 1) (by omega) (by omega) _ _ ls ((hw).cast (zc rfl (zc rfl (zc (congrArg (fun z => ((qe, ia E 24 (nA z)) : Nat × va_E)) e_b2_0) (zc (congrArg (fun z => ((qw, ia E 24 z) : Nat × va_E)) e_b2_1) rfl))))) (lv_add (lv_add (lv_add (lv_add (lv_nil hl) (lv_at hl 0 rfl)) (lv_at hl 3 rfl)) (lv_at hl 2 rfl)) (lv_at hl 1 rfl))
        · refine lv_aload_n hx hb dX0_releaseLater_20 rfl (lv_at hl 1 rfl) ?_
          refine lv_iload_n hx hb dX0_releaseLater_21 rfl (lv_at hl 2 rfl) ?_
          refine lv_iload_n hx hb dX0_releaseLater_22 rfl (lv_at hl 3 rfl) ?_
          refine z_ri0 (wr := [(h0, ob 0 [.ref qo, .ref qe, .ref qw]), (qo, ia E 24 (nA OR)), (qe, ia E 24 (nA (relD (erl D0 D1 L0 L1 G0 G1) WF DP v k))), (qw, ia E 24 (relW (erl D0 D1 L0 L1 G0 G1) WF v k))]) cx hw [4, 5, 6, 7, 8, 9, 10, 11, 12, 13, 14] [0, 1, 2, 3] rfl rfl (by decide) (by decide) rfl rfl (z_runVN (As := [.int (nI v), .int (nI k)]) (rest := []) cx hw rfl rfl [4, 5, 6, 7, 8, 9, 10, 11, 12, 13, 14] rfl rfl (c_X1_isEarlier l E hC qp qd d0 d1 ql l0 l1 qg g0 g1 P D0 D1 L0 L1 G0 G1 mm v k (by omega) (by omega) (hB) H.size) mf_X1_isEarlier (nm_X0_45 hN) ⟨Nat.le_of_ble_eq_true rfl, Nat.le_of_ble_eq_true rfl⟩ hl (Nat.le_of_ble_eq_true rfl) dX0_releaseLater_23 ⟨Nat.le_of_ble_eq_true rfl, Nat.le_of_ble_eq_true rfl⟩) (fun r _ H locs hp hw => ?_)
          have hr_23 := hp
          have hr_23 : r = bI (erl D0 D1 L0 L1 G0 G1 v k) := hr_23
          subst hr_23
          have hw : ZW E A s [(h0, ob 0 [.ref qo, .ref qe, .ref qw]), (qo, ia E 24 (nA OR)), (qe, ia E 24 (nA (relD (erl D0 D1 L0 L1 G0 G1) WF DP v k))), (qw, ia E 24 (relW (erl D0 D1 L0 L1 G0 G1) WF v k)), (hC, ob 1 [.ref qp, .ref qd, .ref ql, .ref qg, .int (nI mm)]), (qp, ia E 100 P), (qd, ra E d0 d1), (d0, ia E 24 (nA D0)), (d1, ia E 24 (nA D1)), (ql, ra E l0 l1), (l0, ia E 24 (nA L0)), (l1, ia E 24 (nA L1)), (qg, ra E g0 g1), (g0, ia E 24 (nA G0)), (g1, ia E 24 (nA G1))] H locs := hw
          refine z_ifb_eq hx hb 62 dX0_releaseLater_26 (by decide) (fun c_26 => ?_) (fun c_26 => ?_)
          · refine lv_iinc (v := nI (k + 1)) (lv' := [(3, .int (nI (k + 1))), (0, .ref h0), (1, .ref hC), (2, .int (nI v))]) hx hb dX0_releaseLater_62 hl (k := 3) rfl (nI_1 _) (by decide) rfl (fun ls hl => ?_)
            refine lv_goto (tgt := 2) hx hb dX0_releaseLater_65 (by decide) ?_
            have e_b2_0 : (relD (erl D0 D1 L0 L1 G0 G1) WF DP v k) = (relD (erl D0 D1 L0 L1 G0 G1) WF DP v (k + 1)) := by rw [relD_f (fun z => by rw [c_26] at z; exact absurd z.2 (by decide))]
            have e_b2_1 : (relW (erl D0 D1 L0 L1 G0 G1) WF v k) = (relW (erl D0 D1 L0 L1 G0 G1) WF v (k + 1)) := by rw [relW_f (fun z => by rw [c_26] at z; exact absurd z.2 (by decide))]
            exact ih_2 (k + 1) (by omega) (by omega) _ _ ls ((hw).cast (zc rfl (zc rfl (zc (congrArg (fun z => ((qe, ia E 24 (nA z)) : Nat × va_E)) e_b2_0) (zc (congrArg (fun z => ((qw, ia E 24 z) : Nat × va_E)) e_b2_1) rfl))))) (lv_add (lv_add (lv_add (lv_add (lv_nil hl) (lv_at hl 0 rfl)) (lv_at hl 3 rfl)) (lv_at hl 2 rfl)) (lv_at hl 1 rfl))
          · refine lv_aload_n hx hb dX0_releaseLater_29 rfl (lv_at hl 0 rfl) ?_
            refine z_get cx hw 0 2 rfl rfl inlX0 (by decide) wd_65 rfl dX0_releaseLater_30 ?_
            refine lv_iload_n hx hb dX0_releaseLater_33 rfl (lv_at hl 3 rfl) ?_
            refine lv_dup2_11 hx hb dX0_releaseLater_34 rfl rfl ?_
            refine z_ald cx hw 3 rfl (k) rfl (by omega) (by decide) dX0_releaseLater_35 ?_
            rw [relW_at]
            refine lv_iconst (v := nI 1) hx hb dX0_releaseLater_36 (by decide) ?_
            refine lv_isub hx hb dX0_releaseLater_37 ?_
            refine z_ast cx hw 3 rfl (k) rfl (by omega) (by decide) dX0_releaseLater_38 (fun H locs hw => ?_)
            have hw : ZW E A s [(h0, ob 0 [.ref qo, .ref qe, .ref qw]), (qo, ia E 24 (nA OR)), (qe, ia E 24 (nA (relD (erl D0 D1 L0 L1 G0 G1) WF DP v k))), (qw, ia E 24 (upd (relW (erl D0 D1 L0 L1 G0 G1) WF v k) k ((WF k) - (nI 1)))), (hC, ob 1 [.ref qp, .ref qd, .ref ql, .ref qg, .int (nI mm)]), (qp, ia E 100 P), (qd, ra E d0 d1), (d0, ia E 24 (nA D0)), (d1, ia E 24 (nA D1)), (ql, ra E l0 l1), (l0, ia E 24 (nA L0)), (l1, ia E 24 (nA L1)), (qg, ra E g0 g1), (g0, ia E 24 (nA G0)), (g1, ia E 24 (nA G1))] H locs := hw
            refine lv_aload_n hx hb dX0_releaseLater_39 rfl (lv_at hl 0 rfl) ?_
            refine z_get cx hw 0 1 rfl rfl inlX0 (by decide) wd_64 rfl dX0_releaseLater_40 ?_
            refine lv_iload_n hx hb dX0_releaseLater_43 rfl (lv_at hl 3 rfl) ?_
            refine lv_aload_n hx hb dX0_releaseLater_44 rfl (lv_at hl 0 rfl) ?_
            refine z_get cx hw 0 1 rfl rfl inlX0 (by decide) wd_64 rfl dX0_releaseLater_45 ?_
            refine lv_iload_n hx hb dX0_releaseLater_48 rfl (lv_at hl 3 rfl) ?_
            refine z_aldN cx hw 2 rfl (k) rfl (by omega) (by decide) dX0_releaseLater_49 ?_
            rw [relD_at]
            refine lv_aload_n hx hb dX0_releaseLater_50 rfl (lv_at hl 0 rfl) ?_
            refine z_get cx hw 0 1 rfl rfl inlX0 (by decide) wd_64 rfl dX0_releaseLater_51 ?_
            refine lv_iload_n hx hb dX0_releaseLater_54 rfl (lv_at hl 2 rfl) ?_
            refine z_aldN cx hw 2 rfl (v) rfl (by omega) (by decide) dX0_releaseLater_55 ?_
            rw [relD_q hpl]
            refine lv_iconst (v := nI 1) hx hb dX0_releaseLater_56 (by decide) ?_
            refine z_iadd hx hb ((DP v) + 1) rfl dX0_releaseLater_57 ?_
            have b1_ := hd k
            have b2_ := hd v
            refine z_mmax cx (DP k) ((DP v) + 1) (by omega) (by omega) hl wd_423 (Nat.le_of_ble_eq_true rfl) (Nat.le_of_ble_eq_true rfl) (Nat.le_of_ble_eq_true rfl) (Nat.le_of_ble_eq_true rfl) dX0_releaseLater_58 ?_
            refine z_astN cx hw 2 rfl (k) rfl (by omega) (by decide) dX0_releaseLater_61 (fun H locs hw => ?_)
            have hw : ZW E A s [(h0, ob 0 [.ref qo, .ref qe, .ref qw]), (qo, ia E 24 (nA OR)), (qe, ia E 24 (nA (updN (relD (erl D0 D1 L0 L1 G0 G1) WF DP v k) k (max (DP k) ((DP v) + 1))))), (qw, ia E 24 (upd (relW (erl D0 D1 L0 L1 G0 G1) WF v k) k ((WF k) - (nI 1)))), (hC, ob 1 [.ref qp, .ref qd, .ref ql, .ref qg, .int (nI mm)]), (qp, ia E 100 P), (qd, ra E d0 d1), (d0, ia E 24 (nA D0)), (d1, ia E 24 (nA D1)), (ql, ra E l0 l1), (l0, ia E 24 (nA L0)), (l1, ia E 24 (nA L1)), (qg, ra E g0 g1), (g0, ia E 24 (nA G0)), (g1, ia E 24 (nA G1))] H locs := hw
            refine lv_iinc (v := nI (k + 1)) (lv' := [(3, .int (nI (k + 1))), (0, .ref h0), (1, .ref hC), (2, .int (nI v))]) hx hb dX0_releaseLater_62 hl (k := 3) rfl (nI_1 _) (by decide) rfl (fun ls hl => ?_)
            refine lv_goto (tgt := 2) hx hb dX0_releaseLater_65 (by decide) ?_
            have e_b2_0 : (updN (relD (erl D0 D1 L0 L1 G0 G1) WF DP v k) k (max (DP k) ((DP v) + 1))) = (relD (erl D0 D1 L0 L1 G0 G1) WF DP v (k + 1)) := by rw [relD_t c_17 c_26]
            have e_b2_1 : (upd (relW (erl D0 D1 L0 L1 G0 G1) WF v k) k ((WF k) - (nI 1))) = (relW (erl D0 D1 L0 L1 G0 G1) WF v (k + 1)) := by rw [relW_t c_17 c_26]
            exact ih_2 (k + 1) (by omega) (by omega) _ _ ls ((hw).cast (zc rfl (zc rfl (zc (congrArg (fun z => ((qe, ia E 24 (nA z)) : Nat × va_E)) e_b2_0) (zc (congrArg (fun z => ((qw, ia E 24 z) : Nat × va_E)) e_b2_1) rfl))))) (lv_add (lv_add (lv_add (lv_add (lv_nil hl) (lv_at hl 0 rfl)) (lv_at hl 3 rfl)) (lv_at hl 2 rfl)) (lv_at hl 1 rfl))
  have e_i2_0 : DP = (relD (erl D0 D1 L0 L1 G0 G1) WF DP v 0) := by rw [← relD_0]
  have e_i2_1 : WF = (relW (erl D0 D1 L0 L1 G0 G1) WF v 0) := by rw [← relW_0]
  exact loop_2 _ 0 (by omega) (Nat.lt_succ_self _) _ _ ls ((hw).cast (zc rfl (zc rfl (zc (congrArg (fun z => ((qe, ia E 24 (nA z)) : Nat × va_E)) e_i2_0) (zc (congrArg (fun z => ((qw, ia E 24 z) : Nat × va_E)) e_i2_1) rfl))))) (lv_add (lv_add (lv_add (lv_add (lv_nil hl) (lv_at hl 0 rfl)) (lv_at hl 3 rfl)) (lv_at hl 2 rfl)) (lv_at hl 1 rfl))

def rmX0_arrange : Room := { frames := 3, cells := 0, slots := 0, locals := 68 }
set_option maxHeartbeats 4000000 in
set_option maxRecDepth 100000 in
theorem c_X0_arrange (l : Launch) (E : ZE) (h0 qo qe qw : Nat) (OR DP : Nat → Nat) (WF : Nat → Int32) (hC qp qd d0 d1 ql l0 l1 qg g0 g1 : Nat) (P : Nat → Int32) (D0 D1 L0 L1 G0 G1 : Nat → Nat) (mm : Nat) (hmm : mm ≤ 24) (hB : Bd6 D0 D1 L0 L1 G0 G1) : ZMi l yX0_arrange cX0_arrange 4 (some .boolean) rmX0_arrange E [.ref h0, .ref hC] [(h0, ob 0 [.ref qo, .ref qe, .ref qw]), (qo, ia E 24 (nA OR)), (qe, ia E 24 (nA DP)), (qw, ia E 24 WF), (hC, ob 1 [.ref qp, .ref qd, .ref ql, .ref qg, .int (nI mm)]), (qp, ia E 100 P), (qd, ra E d0 d1), (d0, ia E 24 (nA D0)), (d1, ia E 24 (nA D1)), (ql, ra E l0 l1), (l0, ia E 24 (nA L0)), (l1, ia E 24 (nA L1)), (qg, ra E g0 g1), (g0, ia E 24 (nA G0)), (g1, ia E 24 (nA G1))] (S := (Nat → Int32) × (Nat → Nat) × (Nat → Nat)) (fun r u => r = bI ((arS (erl D0 D1 L0 L1 G0 G1) mm OR mm).isSome) ∧ ∀ t, arS (erl D0 D1 L0 L1 G0 G1) mm OR mm = some t → u.2.1 = t.2.1 ∧ u.2.2 = t.2.2) (fun u => [(h0, ob 0 [.ref qo, .ref qe, .ref qw]), (qo, ia E 24 (nA u.2.1)), (qe, ia E 24 (nA u.2.2)), (qw, ia E 24 u.1), (hC, ob 1 [.ref qp, .ref qd, .ref ql, .ref qg, .int (nI mm)]), (qp, ia E 100 P), (qd, ra E d0 d1), (d0, ia E 24 (nA D0)), (d1, ia E 24 (nA D1)), (ql, ra E l0 l1), (l0, ia E 24 (nA L0)), (l1, ia E 24 (nA L1)), (qg, ra E g0 g1), (g0, ia E 24 (nA G0)), (g1, ia E 24 (nA G1))]) := by
  refine z_mz (by decide) (Nat.le_of_ble_eq_true rfl) ?_
  intro p e s m args below meth c A Q ls cx hin hw hl ret
  obtain ⟨hx, hb, hml, hown, hts, hK, hN, hA, hlk⟩ := id cx
  have hl : lv_has ls 4 [(0, .ref h0), (1, .ref hC)] := hl
  refine lv_aload_n hx hb dX0_arrange_0 rfl (lv_at hl 0 rfl) ?_
  refine lv_aload_n hx hb dX0_arrange_1 rfl (lv_at hl 1 rfl) ?_
  refine z_rv0 (wr := []) cx hw [0, 1, 2, 3, 4, 5, 6, 7, 8, 9, 10, 11, 12, 13, 14] [] rfl rfl (by decide) (by decide) rfl rfl (z_runV (As := [.ref hC]) (rest := []) cx hw rfl rfl [0, 1, 2, 3, 4, 5, 6, 7, 8, 9, 10, 11, 12, 13, 14] rfl rfl (c_X0_countEarlier l E h0 qo qe qw OR DP WF hC qp qd d0 d1 ql l0 l1 qg g0 g1 P D0 D1 L0 L1 G0 G1 mm (by omega) (hB) s.heap.size) mf_X0_countEarlier wd_410 ⟨Nat.le_of_ble_eq_true rfl, Nat.le_of_ble_eq_true rfl⟩ hl (Nat.le_of_ble_eq_true rfl) dX0_arrange_2 ⟨Nat.le_of_ble_eq_true rfl, Nat.le_of_ble_eq_true rfl⟩) (fun _ H locs hp hw => ?_)
  have hw : ZW E A s [(h0, ob 0 [.ref qo, .ref qe, .ref qw]), (qo, ia E 24 (nA OR)), (qe, ia E 24 (nA (fun _ => 0))), (qw, ia E 24 (nA (wcE (erl D0 D1 L0 L1 G0 G1) mm mm))), (hC, ob 1 [.ref qp, .ref qd, .ref ql, .ref qg, .int (nI mm)]), (qp, ia E 100 P), (qd, ra E d0 d1), (d0, ia E 24 (nA D0)), (d1, ia E 24 (nA D1)), (ql, ra E l0 l1), (l0, ia E 24 (nA L0)), (l1, ia E 24 (nA L1)), (qg, ra E g0 g1), (g0, ia E 24 (nA G0)), (g1, ia E 24 (nA G1))] H locs := hw
  refine lv_iconst (v := nI 0) hx hb dX0_arrange_5 (by decide) ?_
  refine lv_istore_n (lv' := [(2, .int (nI 0)), (0, .ref h0), (1, .ref hC)]) hx hb dX0_arrange_6 rfl hl (by decide) rfl (fun ls hl => ?_)
  have loop_7 : ∀ (fuel : Nat) (k : Nat) (WF : Nat → Int32) (O2 : Nat → Nat) (DP : Nat → Nat) (hk : k ≤ mm) (hI : arS (erl D0 D1 L0 L1 G0 G1) mm OR k = some (WF, O2, DP)) (hd : ∀ x, DP x ≤ k) (hm : mm - k < fuel) (H : Heap) (locs : List Loc) (ls : Array Slot), ZW E A s [(h0, ob 0 [.ref qo, .ref qe, .ref qw]), (qo, ia E 24 (nA O2)), (qe, ia E 24 (nA DP)), (qw, ia E 24 WF), (hC, ob 1 [.ref qp, .ref qd, .ref ql, .ref qg, .int (nI mm)]), (qp, ia E 100 P), (qd, ra E d0 d1), (d0, ia E 24 (nA D0)), (d1, ia E 24 (nA D1)), (ql, ra E l0 l1), (l0, ia E 24 (nA L0)), (l1, ia E 24 (nA L1)), (qg, ra E g0 g1), (g0, ia E 24 (nA G0)), (g1, ia E 24 (nA G1))] H locs → lv_has ls 4 [(0, .ref h0), (1, .ref hC), (2, .int (nI k))] → W p l e rmX0_arrange s m args below meth c H locs 0 0 Q (F0 m 7 ls []) := by
    intro fuel
    induction fuel with
    | zero => intro k WF O2 DP hk hI hd hm; exact absurd hm (Nat.not_lt_zero _)
    | succ fuel ih_7 =>
      intro k WF O2 DP hk hI hd hm H locs ls hw hl
      refine lv_iload_n hx hb dX0_arrange_7 rfl (lv_at hl 2 rfl) ?_
      refine lv_aload_n hx hb dX0_arrange_8 rfl (lv_at hl 1 rfl) ?_
      refine z_getN cx hw 4 4 rfl rfl inlX1 (by decide) (nf_X0_25 hN) rfl dX0_arrange_9 ?_
      refine z_icmp_ge hx hb (by omega) (by omega) 57 dX0_arrange_12 (by decide) (fun c_12 => ?_) (fun c_12 => ?_)
      · refine lv_iconst (v := nI 1) hx hb dX0_arrange_57 (by decide) ?_
        have e_ : k = mm := by omega
        rw [e_] at hI
        exact ret true (WF, O2, DP) 58 ls H locs dX0_arrange_58 (⟨congrArg bI (by rw [hI]; rfl), fun t ht => by rw [hI] at ht; cases ht; exact ⟨rfl, rfl⟩⟩) (hw)
      · refine lv_aload_n hx hb dX0_arrange_15 rfl (lv_at hl 0 rfl) ?_
        refine lv_aload_n hx hb dX0_arrange_16 rfl (lv_at hl 1 rfl) ?_
        refine z_getN cx hw 4 4 rfl rfl inlX1 (by decide) (nf_X0_25 hN) rfl dX0_arrange_17 ?_
        refine z_ri0 (wr := [(hC, ob 1 [.ref qp, .ref qd, .ref ql, .ref qg, .int (nI mm)]), (qp, ia E 100 P), (qd, ra E d0 d1), (d0, ia E 24 (nA D0)), (d1, ia E 24 (nA D1)), (ql, ra E l0 l1), (l0, ia E 24 (nA L0)), (l1, ia E 24 (nA L1)), (qg, ra E g0 g1), (g0, ia E 24 (nA G0)), (g1, ia E 24 (nA G1))]) cx hw [0, 1, 2, 3] [4, 5, 6, 7, 8, 9, 10, 11, 12, 13, 14] rfl rfl (by decide) (by decide) rfl rfl (z_runV (As := [.int (nI mm)]) (rest := []) cx hw rfl rfl [0, 1, 2, 3] rfl rfl (c_X0_lowestThatWaitsForNone l E h0 qo qe qw O2 DP WF mm (by omega) H.size) mf_X0_lowestThatWaitsForNone wd_415 ⟨Nat.le_of_ble_eq_true rfl, Nat.le_of_ble_eq_true rfl⟩ hl (Nat.le_of_ble_eq_true rfl) dX0_arrange_20 ⟨Nat.le_of_ble_eq_true rfl, Nat.le_of_ble_eq_true rfl⟩) (fun r _ H locs hp hw => ?_)
        have hr_20 := hp
        have hr_20 : r = optI (lowZ WF mm) := hr_20
        subst hr_20
        have hw : ZW E A s [(hC, ob 1 [.ref qp, .ref qd, .ref ql, .ref qg, .int (nI mm)]), (qp, ia E 100 P), (qd, ra E d0 d1), (d0, ia E 24 (nA D0)), (d1, ia E 24 (nA D1)), (ql, ra E l0 l1), (l0, ia E 24 (nA L0)), (l1, ia E 24 (nA L1)), (qg, ra E g0 g1), (g0, ia E 24 (nA G0)), (g1, ia E 24 (nA G1)), (h0, ob 0 [.ref qo, .ref qe, .ref qw]), (qo, ia E 24 (nA O2)), (qe, ia E 24 (nA DP)), (qw, ia E 24 WF)] H locs := hw
        refine lv_istore_n (lv' := [(3, .int (optI (lowZ WF mm))), (0, .ref h0), (1, .ref hC), (2, .int (nI k))]) hx hb dX0_arrange_23 rfl hl (by decide) rfl (fun ls hl => ?_)
        refine lv_iload_n hx hb dX0_arrange_24 rfl (lv_at hl 0 rfl) ?_
        refine lv_iconst (v := (-1)) hx hb dX0_arrange_25 (by decide) ?_
        refine lv_icmp_ne (tgt := 31) hx hb dX0_arrange_26 (by decide) (fun c_26 => ?_) (fun c_26 => ?_)
        · obtain ⟨i, hz_⟩ := optI_ne c_26
          obtain ⟨hz1_, hz2_, hz3_⟩ := lowZ_some.mp hz_
          have hl : lv_has ls 4 [(3, .int (nI i)), (0, .ref h0), (1, .ref hC), (2, .int (nI k))] := by rw [hz_] at hl; exact hl
          refine lv_aload_n hx hb dX0_arrange_31 rfl (lv_at hl 1 rfl) ?_
          refine z_get cx hw 11 0 rfl rfl inlX0 (by decide) wd_63 rfl dX0_arrange_32 ?_
          refine lv_iload_n hx hb dX0_arrange_35 rfl (lv_at hl 3 rfl) ?_
          refine lv_iload_n hx hb dX0_arrange_36 rfl (lv_at hl 0 rfl) ?_
          refine z_astN cx hw 12 rfl (k) rfl (by omega) (by decide) dX0_arrange_37 (fun H locs hw => ?_)
          have hw : ZW E A s [(hC, ob 1 [.ref qp, .ref qd, .ref ql, .ref qg, .int (nI mm)]), (qp, ia E 100 P), (qd, ra E d0 d1), (d0, ia E 24 (nA D0)), (d1, ia E 24 (nA D1)), (ql, ra E l0 l1), (l0, ia E 24 (nA L0)), (l1, ia E 24 (nA L1)), (qg, ra E g0 g1), (g0, ia E 24 (nA G0)), (g1, ia E 24 (nA G1)), (h0, ob 0 [.ref qo, .ref qe, .ref qw]), (qo, ia E 24 (nA (updN O2 k i))), (qe, ia E 24 (nA DP)), (qw, ia E 24 WF)] H locs := hw
          refine lv_aload_n hx hb dX0_arrange_38 rfl (lv_at hl 1 rfl) ?_
          refine z_get cx hw 11 2 rfl rfl inlX0 (by decide) wd_65 rfl dX0_arrange_39 ?_
          refine lv_iload_n hx hb dX0_arrange_42 rfl (lv_at hl 0 rfl) ?_
          refine lv_iconst (v := (-1)) hx hb dX0_arrange_43 (by decide) ?_
          refine z_ast cx hw 14 rfl (i) rfl (by omega) (by decide) dX0_arrange_44 (fun H locs hw => ?_)
          have hw : ZW E A s [(hC, ob 1 [.ref qp, .ref qd, .ref ql, .ref qg, .int (nI mm)]), (qp, ia E 100 P), (qd, ra E d0 d1), (d0, ia E 24 (nA D0)), (d1, ia E 24 (nA D1)), (ql, ra E l0 l1), (l0, ia E 24 (nA L0)), (l1, ia E 24 (nA L1)), (qg, ra E g0 g1), (g0, ia E 24 (nA G0)), (g1, ia E 24 (nA G1)), (h0, ob 0 [.ref qo, .ref qe, .ref qw]), (qo, ia E 24 (nA (updN O2 k i))), (qe, ia E 24 (nA DP)), (qw, ia E 24 (upd WF i (-1)))] H locs := hw
          refine lv_aload_n hx hb dX0_arrange_45 rfl (lv_at hl 1 rfl) ?_
          refine lv_aload_n hx hb dX0_arrange_46 rfl (lv_at hl 2 rfl) ?_
          refine lv_iload_n hx hb dX0_arrange_47 rfl (lv_at hl 0 rfl) ?_
          refine z_rv0 (wr := []) cx hw [11, 12, 13, 14, 0, 1, 2, 3, 4, 5, 6, 7, 8, 9, 10] [] rfl rfl (by decide) (by decide) rfl rfl (z_runV (As := [.ref hC, .int (nI i)]) (rest := []) cx hw rfl rfl [11, 12, 13, 14, 0, 1, 2, 3, 4, 5, 6, 7, 8, 9, 10] rfl rfl (c_X0_releaseLater l E h0 qo qe qw (updN O2 k i) DP (upd WF i (-1)) hC qp qd d0 d1 ql l0 l1 qg g0 g1 P D0 D1 L0 L1 G0 G1 mm i (by omega) (hB) (by omega) (by simp [upd]) (fun x => by have := hd x; omega) H.size) mf_X0_releaseLater wd_419 ⟨Nat.le_of_ble_eq_true rfl, Nat.le_of_ble_eq_true rfl⟩ hl (Nat.le_of_ble_eq_true rfl) dX0_arrange_48 ⟨Nat.le_of_ble_eq_true rfl, Nat.le_of_ble_eq_true rfl⟩) (fun _ H locs hp hw => ?_)
          have hw : ZW E A s [(h0, ob 0 [.ref qo, .ref qe, .ref qw]), (qo, ia E 24 (nA (updN O2 k i))), (qe, ia E 24 (nA (relD (erl D0 D1 L0 L1 G0 G1) (upd WF i (-1)) DP i mm))), (qw, ia E 24 (relW (erl D0 D1 L0 L1 G0 G1) (upd WF i (-1)) i mm)), (hC, ob 1 [.ref qp, .ref qd, .ref ql, .ref qg, .int (nI mm)]), (qp, ia E 100 P), (qd, ra E d0 d1), (d0, ia E 24 (nA D0)), (d1, ia E 24 (nA D1)), (ql, ra E l0 l1), (l0, ia E 24 (nA L0)), (l1, ia E 24 (nA L1)), (qg, ra E g0 g1), (g0, ia E 24 (nA G0)), (g1, ia E 24 (nA G1))] H locs := hw
          refine lv_iinc (v := nI (k + 1)) (lv' := [(2, .int (nI (k + 1))), (3, .int (nI i)), (0, .ref h0), (1, .ref hC)]) hx hb dX0_arrange_51 hl (k := 3) rfl (nI_1 _) (by decide) rfl (fun ls hl => ?_)
          refine lv_goto (tgt := 7) hx hb dX0_arrange_54 (by decide) ?_
          exact ih_7 (k + 1) (relW (erl D0 D1 L0 L1 G0 G1) (upd WF i (-1)) i mm) (updN O2 k i) (relD (erl D0 D1 L0 L1 G0 G1) (upd WF i (-1)) DP i mm) (by omega) (by simp [arS, hI, hz_]) (relD_le hd) (by omega) _ _ ls (hw) (lv_add (lv_add (lv_add (lv_nil hl) (lv_at hl 0 rfl)) (lv_at hl 3 rfl)) (lv_at hl 2 rfl))
        · refine lv_iconst (v := nI 0) hx hb dX0_arrange_29 (by decide) ?_
          have hn_ : lowZ WF mm = none := by
            cases hq_ : lowZ WF mm with
            | none => rfl
            | some x => rw [hq_] at c_26; exact absurd c_26 (m1_ne (by have := (lowZ_some.mp hq_).1; omega))
          have hf_ : arS (erl D0 D1 L0 L1 G0 G1) mm OR mm = none := arS_none (i := k + 1) (by simp [arS, hI, hn_]) (by omega)
          exact ret false (WF, O2, DP) 30 ls H locs dX0_arrange_30 (⟨congrArg bI (by rw [hf_]; rfl), fun t ht => by rw [hf_] at ht; cases ht⟩) (hw.perm [11, 12, 13, 14, 0, 1, 2, 3, 4, 5, 6, 7, 8, 9, 10] rfl (by decide))
  have e_i7_0 : (nA (wcE (erl D0 D1 L0 L1 G0 G1) mm mm)) = (nA (wcE (erl D0 D1 L0 L1 G0 G1) mm mm)) := by rfl
  exact loop_7 _ 0 (nA (wcE (erl D0 D1 L0 L1 G0 G1) mm mm)) OR (fun _ => 0) (by omega) (rfl) (fun _ => Nat.le_refl _) (Nat.lt_succ_self _) _ _ ls ((hw).cast (zc rfl (zc rfl (zc rfl (zc (congrArg (fun z => ((qw, ia E 24 z) : Nat × va_E)) e_i7_0) rfl))))) (lv_add (lv_add (lv_add (lv_nil hl) (lv_at hl 0 rfl)) (lv_at hl 2 rfl)) (lv_at hl 1 rfl))

