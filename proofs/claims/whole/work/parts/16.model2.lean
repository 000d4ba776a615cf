/-! ===== the reference's couples, nets and order ===== -/
theorem pr_iff {F : Nat → Nat} {i k : Nat} (h0 : F (4 * i + 0) < 10) (h1 : F (4 * i + 1) < 10) : (F (4 * i + 0) = k / 10 ∧ F (4 * i + 1) = k % 10) ↔ pr F i = k := by
  unfold pr
  omega
theorem lw_none {F : Nat → Nat} {sd j k : Nat} (h : hasP F k j = false) : lw F sd j k = 5 ∧ gw F sd j k = 0 := by
  induction k with
  | zero => exact ⟨rfl, rfl⟩
  | succ k ih =>
    simp only [hasP, Bool.or_eq_false_iff, decide_eq_false_iff_not] at h
    simp only [lw, gw, if_neg h.2]
    exact ih h.1
def lwn (b : Bool) (x y : Nat) : Nat := if b = true then min x y else y
def hwn (b : Bool) (x y : Nat) : Nat := if b = true then max x y else y
theorem lwn_lt {b : Bool} {x y : Nat} (hb : b = true) (h : y < x) : y = lwn b x y := by rw [lwn, if_pos hb]; omega
theorem lwn_ge {b : Bool} {x y : Nat} (hb : b = true) (h : x ≤ y) : x = lwn b x y := by rw [lwn, if_pos hb]; omega
theorem lwn_f {b : Bool} {x y : Nat} (hb : b = false) : y = lwn b x y := by rw [lwn, hb]; rfl
theorem hwn_gt {b : Bool} {x y : Nat} (hb : b = true) (h : x < y) : y = hwn b x y := by rw [hwn, if_pos hb]; omega
theorem hwn_le {b : Bool} {x y : Nat} (hb : b = true) (h : y ≤ x) : x = hwn b x y := by rw [hwn, if_pos hb]; omega
theorem hwn_f {b : Bool} {x y : Nat} (hb : b = false) : y = hwn b x y := by rw [hwn, hb]; rfl
def FI (Nw : Nat → Nat) (n k : Nat) (Ob Rv Lo Hi : Nat → Nat) : Prop := ∀ j, j < k → hasP Nw n j = true → Ob (rk (hasP Nw n) j) = j / 10 ∧ Rv (rk (hasP Nw n) j) = j % 10 ∧ Lo (rk (hasP Nw n) j) = lw Nw 0 j n ∧ Lo (24 + rk (hasP Nw n) j) = lw Nw 1 j n ∧ Hi (rk (hasP Nw n) j) = gw Nw 0 j n ∧ Hi (24 + rk (hasP Nw n) j) = gw Nw 1 j n
def FJ (Nw : Nat → Nat) (n k i : Nat) (Lo Hi : Nat → Nat) : Prop := hasP Nw i k = true → Lo (rk (hasP Nw n) k) = lw Nw 0 k i ∧ Lo (24 + rk (hasP Nw n) k) = lw Nw 1 k i ∧ Hi (rk (hasP Nw n) k) = gw Nw 0 k i ∧ Hi (24 + rk (hasP Nw n) k) = gw Nw 1 k i
theorem FI.keep {Nw : Nat → Nat} {n k : Nat} {Ob Rv Lo Hi : Nat → Nat} (h : FI Nw n k Ob Rv Lo Hi) (hc : rk (hasP Nw n) k < 24) (x y x2 y2 : Nat) : FI Nw n k Ob Rv (updN (updN Lo (rk (hasP Nw n) k) x) (24 + rk (hasP Nw n) k) y) (updN (updN Hi (rk (hasP Nw n) k) x2) (24 + rk (hasP Nw n) k) y2) := by
  intro j hj hb
  obtain ⟨h1, h2, h3, h4, h5, h6⟩ := h j hj hb
  have hlt := rk_lt (hasP Nw n) hj hb
  refine ⟨h1, h2, ?_, ?_, ?_, ?_⟩
  · rw [updN_ne _ _ (by omega), updN_ne _ _ (by omega)]; exact h3
  · rw [updN_ne _ _ (by omega), updN_ne _ _ (by omega)]; exact h4
  · rw [updN_ne _ _ (by omega), updN_ne _ _ (by omega)]; exact h5
  · rw [updN_ne _ _ (by omega), updN_ne _ _ (by omega)]; exact h6
theorem FJ.step {Nw : Nat → Nat} {n k i : Nat} {Lo Hi : Nat → Nat} (h : FJ Nw n k i Lo Hi) (hp : pr Nw i = k) (h0 : Nw (4 * i + 2 + 0) ≤ 5) (h1 : Nw (4 * i + 2 + 1) ≤ 5) :
    FJ Nw n k (i + 1) (updN (updN Lo (rk (hasP Nw n) k) (lwn (hasP Nw i k) (Lo (rk (hasP Nw n) k)) (Nw (4 * i + 2 + 0)))) (24 + rk (hasP Nw n) k) (lwn (hasP Nw i k) (updN Lo (rk (hasP Nw n) k) (lwn (hasP Nw i k) (Lo (rk (hasP Nw n) k)) (Nw (4 * i + 2 + 0))) (24 + rk (hasP Nw n) k)) (Nw (4 * i + 2 + 1))))
      (updN (updN Hi (rk (hasP Nw n) k) (hwn (hasP Nw i k) (Hi (rk (hasP Nw n) k)) (Nw (4 * i + 2 + 0)))) (24 + rk (hasP Nw n) k) (hwn (hasP Nw i k) (updN Hi (rk (hasP Nw n) k) (hwn (hasP Nw i k) (Hi (rk (hasP Nw n) k)) (Nw (4 * i + 2 + 0))) (24 + rk (hasP Nw n) k)) (Nw (4 * i + 2 + 1)))) := by
  unfold FJ at h ⊢
  intro _
  generalize rk (hasP Nw n) k = c at h ⊢
  have e1 : ∀ f : Nat → Nat, ∀ x y : Nat, updN (updN f c x) (24 + c) y c = x := fun f x y => by rw [updN_ne _ _ (by omega), updN_eq]
  have e2 : ∀ f : Nat → Nat, ∀ x y : Nat, updN (updN f c x) (24 + c) y (24 + c) = y := fun f x y => by rw [updN_eq]
  have e3 : ∀ f : Nat → Nat, ∀ x : Nat, updN f c x (24 + c) = f (24 + c) := fun f x => by rw [updN_ne _ _ (by omega)]
  rw [e1, e2, e1, e2, e3, e3]
  simp only [lw, gw, if_pos hp]
  cases hb : hasP Nw i k with
  | true =>
    obtain ⟨g1, g2, g3, g4⟩ := h hb
    simp only [lwn, hwn, if_true]
    rw [g1, g2, g3, g4]
    exact ⟨rfl, rfl, rfl, rfl⟩
  | false =>
    obtain ⟨a1, a2⟩ := lw_none (sd := 0) hb
    obtain ⟨b1, b2⟩ := lw_none (sd := 1) hb
    simp only [lwn, hwn, Bool.false_eq_true, if_false]
    rw [a1, a2, b1, b2]
    omega
theorem FJ.skip {Nw : Nat → Nat} {n k i : Nat} {Lo Hi : Nat → Nat} (h : FJ Nw n k i Lo Hi) (hp : ¬ pr Nw i = k) : FJ Nw n k (i + 1) Lo Hi := by
  intro hb
  simp only [hasP, hp, decide_false, Bool.or_false] at hb
  simp only [lw, gw, if_neg hp]
  exact h hb
theorem FI.push {Nw : Nat → Nat} {n k : Nat} {Ob Rv Lo Hi : Nat → Nat} (h : FI Nw n k Ob Rv Lo Hi) (hJ : FJ Nw n k n Lo Hi) (hb : hasP Nw n k = true) : FI Nw n (k + 1) (updN Ob (rk (hasP Nw n) k) (k / 10)) (updN Rv (rk (hasP Nw n) k) (k % 10)) Lo Hi := by
  intro j hj hbj
  by_cases e : j = k
  · subst e
    rw [updN_eq, updN_eq]
    exact ⟨rfl, rfl, hJ hb⟩
  · obtain ⟨h1, h2, h3⟩ := h j (by omega) hbj
    have hlt := rk_lt (hasP Nw n) (show j < k by omega) hbj
    rw [updN_ne _ _ (by omega), updN_ne _ _ (by omega)]
    exact ⟨h1, h2, h3⟩
theorem FI.pass {Nw : Nat → Nat} {n k : Nat} {Ob Rv Lo Hi : Nat → Nat} (h : FI Nw n k Ob Rv Lo Hi) (hb : hasP Nw n k = false) : FI Nw n (k + 1) Ob Rv Lo Hi := by
  intro j hj hbj
  by_cases e : j = k
  · subst e; rw [hb] at hbj; cases hbj
  · exact h j (by omega) hbj
def idk (f : Nat → Nat) (k : Nat) : Nat → Nat := fun j => if j < k then j else f j
theorem idk_0 (f : Nat → Nat) : f = idk f 0 := by funext j; simp [idk]
theorem idk_s (f : Nat → Nat) (k : Nat) : updN (idk f k) k k = idk f (k + 1) := by
  funext j
  simp only [updN, idk]
  by_cases e : j = k
  · subst e; rw [if_pos rfl, if_pos (by omega)]
  · rw [if_neg e]
    have q : (j < k) ↔ (j < k + 1) := by omega
    simp only [q]
def nkv (e : Bool) (x a b : Nat) : Nat := if e = false ∧ x = a then b else x
def nkf (e : Bool) (f : Nat → Nat) (a b k : Nat) : Nat → Nat := fun v => if v < k then nkv e (f v) a b else f v
theorem nkf_0 (e : Bool) (f : Nat → Nat) (a b : Nat) : f = nkf e f a b 0 := by funext j; simp [nkf]
theorem nkf_at (e : Bool) (f : Nat → Nat) (a b k : Nat) : nkf e f a b k k = f k := by simp [nkf]
theorem nkf_s (e : Bool) (f : Nat → Nat) (a b k : Nat) : updN (nkf e f a b k) k (nkv e (f k) a b) = nkf e f a b (k + 1) := by
  funext j
  simp only [updN, nkf]
  by_cases h : j = k
  · subst h; rw [if_pos rfl, if_pos (by omega)]
  · rw [if_neg h]
    have q : (j < k) ↔ (j < k + 1) := by omega
    simp only [q]
def mn (Ob Rv : Nat → Nat) (wo : Int32) : Nat → Nat → Nat
  | 0 => fun j => j
  | k + 1 => nkf (decide (nI k = wo)) (mn Ob Rv wo k) (mn Ob Rv wo k (Ob k)) (mn Ob Rv wo k (10 + Rv k)) 20
theorem mn_lt {Ob Rv : Nat → Nat} {wo : Int32} (h1 : Bd Ob) (h2 : Bd Rv) (k v : Nat) (hv : v < 20) : mn Ob Rv wo k v < 20 := by
  induction k generalizing v with
  | zero => exact hv
  | succ k ih =>
    have g1 := ih v hv
    have g2 := ih (10 + Rv k) (by have := h2 k; omega)
    simp only [mn, nkf, if_pos hv, nkv]
    split
    · exact g2
    · exact g1
def fs (f : Nat → Nat) (b : Bool) (v : Nat) : Nat → Bool
  | 0 => b
  | u + 1 => fs f b v u && decide (¬ f u = f v)
def nc (f : Nat → Nat) (K : Nat → Bool) : Nat → Nat
  | 0 => 0
  | v + 1 => nc f K v + (if fs f (K v) v v = true then 1 else 0)
theorem nc_le (f : Nat → Nat) (K : Nat → Bool) (k : Nat) : nc f K k ≤ k := by
  induction k with
  | zero => simp [nc]
  | succ k ih => simp only [nc]; split <;> omega
def cqN (f : Nat → Nat) (x : Nat) : Nat → Nat
  | 0 => 0
  | k + 1 => cqN f x k + (if f k = x then 1 else 0)
theorem cqN_le (f : Nat → Nat) (x k : Nat) : cqN f x k ≤ k := by
  induction k with
  | zero => simp [cqN]
  | succ k ih => simp only [cqN]; split <;> omega
def bM (Ob Rv : Nat → Nat) (K : Nat → Bool) (mm c : Nat) : Bool := decide (nc (mn Ob Rv (-1) mm) K 20 < nc (mn Ob Rv (nI c) mm) K 20)
def bcM (Ob Rv : Nat → Nat) (K : Nat → Bool) (mm : Nat) : Nat → Nat
  | 0 => 0
  | k + 1 => bcM Ob Rv K mm k + (if bM Ob Rv K mm k = true then 1 else 0)
theorem erM_ne {Ob Rv Lo Hi : Nat → Nat} {a b : Nat} (h : erM Ob Rv Lo Hi a b = true) : a ≠ b := by
  intro q
  simp [erM, q] at h
def clrB (f : Nat → Bool) (k : Nat) : Nat → Bool := fun j => if j < k then false else f j
theorem clrB_0 (f : Nat → Bool) : f = clrB f 0 := by funext j; simp [clrB]
theorem clrB_s (f : Nat → Bool) (k : Nat) : updB (clrB f k) k false = clrB f (k + 1) := by
  funext j
  simp only [updB, clrB]
  by_cases e : j = k
  · subst e; rw [if_pos rfl, if_pos (by omega)]
  · rw [if_neg e]
    have q : (j < k) ↔ (j < k + 1) := by omega
    simp only [q]
def clrN (f : Nat → Nat) (k : Nat) : Nat → Nat := fun j => if j < k then 0 else f j
theorem clrN_0 (f : Nat → Nat) : f = clrN f 0 := by funext j; simp [clrN]
theorem clrN_s (f : Nat → Nat) (k : Nat) : updN (clrN f k) k 0 = clrN f (k + 1) := by
  funext j
  simp only [updN, clrN]
  by_cases e : j = k
  · subst e; rw [if_pos rfl, if_pos (by omega)]
  · rw [if_neg e]
    have q : (j < k) ↔ (j < k + 1) := by omega
    simp only [q]
def canM (er : Nat → Nat → Bool) (pl : Nat → Bool) (x : Nat) : Nat → Bool
  | 0 => !pl x
  | o + 1 => canM er pl x o && (pl o || !er o x)
def lowF (g : Nat → Bool) (mm : Nat) : Nat → Option Nat
  | 0 => none
  | d + 1 => if g (mm - (d + 1)) = true then some (mm - (d + 1)) else lowF g mm d
theorem lowF_s (g : Nat → Bool) {mm k : Nat} (h : k < mm) : lowF g mm (mm - k) = if g k = true then some k else lowF g mm (mm - (k + 1)) := by
  obtain ⟨d, hd⟩ : ∃ d, mm - k = d + 1 := ⟨mm - k - 1, by omega⟩
  rw [hd, show mm - (k + 1) = d from by omega]
  simp only [lowF]
  rw [show mm - (d + 1) = k from by omega]
theorem lowF_lt {g : Nat → Bool} {mm d k : Nat} (h : lowF g mm d = some k) (hm : 0 < mm) : k < mm := by
  induction d with
  | zero => simp [lowF] at h
  | succ d ih =>
    simp only [lowF] at h
    split at h
    · cases h; omega
    · exact ih h
def gv (er : Nat → Nat → Bool) (ge : Nat → Nat) (x o : Nat) : Nat := if er o x = true then ge o + 1 else 0
def gmx (er : Nat → Nat → Bool) (ge : Nat → Nat) (x : Nat) : Nat → Nat
  | 0 => ge x
  | o + 1 => max (gmx er ge x o) (gv er ge x o)
theorem gmx_le {er : Nat → Nat → Bool} {ge : Nat → Nat} {x k b : Nat} (h : ∀ o, o < k → ge o ≤ b) (hx : ge x ≤ b) : gmx er ge x k ≤ b + 1 := by
  induction k with
  | zero => simp only [gmx]; omega
  | succ k ih =>
    have g1 := ih (fun o ho => h o (by omega))
    have g2 := h k (by omega)
    simp only [gmx, gv]
    split <;> omega
theorem updN_self (f : Nat → Nat) (k : Nat) : f = updN f k (f k) := by
  funext j
  simp only [updN]
  split
  · next e => rw [e]
  · rfl
theorem updN_twice (f : Nat → Nat) (k a b : Nat) : updN (updN f k a) k b = updN f k b := by
  funext j
  simp only [updN]
  split <;> rfl
def plS (er : Nat → Nat → Bool) (mm : Nat) (p0 : Nat → Bool) (o0 g0 : Nat → Nat) : Nat → Option ((Nat → Bool) × (Nat → Nat) × (Nat → Nat))
  | 0 => some (p0, o0, g0)
  | k + 1 => (plS er mm p0 o0 g0 k).bind fun t => (lowF (fun x => canM er t.1 x mm) mm mm).bind fun x => some (updB t.1 x true, updN t.2.1 k x, updN t.2.2 x (gmx er t.2.2 x mm))
theorem plS_none {er : Nat → Nat → Bool} {mm : Nat} {p0 : Nat → Bool} {o0 g0 : Nat → Nat} {i j : Nat} (h : plS er mm p0 o0 g0 i = none) (hij : i ≤ j) : plS er mm p0 o0 g0 j = none := by
  induction j with
  | zero => have : i = 0 := by omega
            subst this; exact h
  | succ j ih =>
    by_cases e : i = j + 1
    · subst e; exact h
    · simp [plS, ih (by omega)]
theorem optI_nn {o : Option Nat} (h : 0 ≤ optI o) : ∃ k, o = some k := by
  cases o with
  | none => exact absurd h (by decide)
  | some k => exact ⟨k, rfl⟩
theorem optI_neg {o : Option Nat} (h : ¬ 0 ≤ optI o) (hb : ∀ k, o = some k → k < 2 ^ 31) : o = none := by
  cases o with
  | none => rfl
  | some k => exact absurd (nI_pos' (hb k rfl)) h

theorem bd_lwn {f : Nat → Nat} {b : Bool} {c d x y : Nat} (h : Bd f) (hx : x < 10) (hy : y < 10) : Bd (updN (updN f c (lwn b (f c) x)) d (lwn b (updN f c (lwn b (f c) x) d) y)) := by
  refine Bd.upd (Bd.upd h ?_) ?_
  · simp only [lwn]; split <;> omega
  · simp only [lwn]; split <;> omega
theorem bd_hwn {f : Nat → Nat} {b : Bool} {c d x y : Nat} (h : Bd f) (hx : x < 10) (hy : y < 10) : Bd (updN (updN f c (hwn b (f c) x)) d (hwn b (updN f c (hwn b (f c) x) d) y)) := by
  have h1 : hwn b (f c) x < 10 := by
    have := h c
    simp only [hwn]; split <;> omega
  refine Bd.upd (Bd.upd h h1) ?_
  have h2 := (Bd.upd (k := c) h h1) d
  generalize updN f c (hwn b (f c) x) d = z at h2 ⊢
  simp only [hwn]; split <;> omega

def rmX6_isCouple : Room := { frames := 0, cells := 0, slots := 0, locals := 0 }
set_option maxHeartbeats 4000000 in
set_option maxRecDepth 100000 in
theorem c_X6_isCouple (l : Launch) (E : ZE) (h0 aN aH aO aR aL aG aT aE aB aV : Nat) (ed mc : Nat) (Nw : Nat → Nat) (k o v : Nat) (hn : Nw 96 ≤ 24) (hF : ∀ j, j < 96 → Nw j < 10) (hk : k < 24) (ho : o < 10) (hv : v < 10) : ZMi l yX6_isCouple cX6_isCouple 4 (some .boolean) rmX6_isCouple E [.ref h0, .int (nI k), .int (nI o), .int (nI v)] [(h0, ob 6 [.ref aN, .ref aH, .int (nI ed), .int (nI mc), .ref aO, .ref aR, .ref aL, .ref aG, .ref aT, .ref aE, .ref aB, .ref aV]), (aN, ia E 97 (nA Nw))] (S := Unit) (fun r _ => r = bI (decide (Nw (4 * k + 0) = o ∧ Nw (4 * k + 1) = v))) (fun _ => [(h0, ob 6 [.ref aN, .ref aH, .int (nI ed), .int (nI mc), .ref aO, .ref aR, .ref aL, .ref aG, .ref aT, .ref aE, .ref aB, .ref aV]), (aN, ia E 97 (nA Nw))]) := by
  refine z_mz (by decide) (Nat.le_of_ble_eq_true rfl) ?_
  intro p e s m args below meth c A Q ls cx hin hw hl ret
  obtain ⟨hx, hb, hml, hown, hts, hK, hN, hA, hlk⟩ := id cx
  have hl : lv_has ls 4 [(0, .ref h0), (1, .int (nI k)), (2, .int (nI o)), (3, .int (nI v))] := hl
  refine lv_aload_n hx hb dX6_isCouple_0 rfl (lv_at hl 0 rfl) ?_
  refine z_get cx hw 0 0 rfl rfl inlX6 (by decide) wd_70 rfl dX6_isCouple_1 ?_
  refine lv_iconst (v := nI 4) hx hb dX6_isCouple_4 (by decide) ?_
  refine lv_iload_n hx hb dX6_isCouple_5 rfl (lv_at hl 1 rfl) ?_
  refine z_imul hx hb (4 * k) rfl dX6_isCouple_6 ?_
  refine z_aldN cx hw 1 rfl (4 * k + 0) (congrArg nI (by omega)) (by omega) (by decide) dX6_isCouple_7 ?_
  have b0_ := hF (4 * k + 0) (by omega)
  refine lv_iload_n hx hb dX6_isCouple_8 rfl (lv_at hl 2 rfl) ?_
  refine z_icmp_ne hx hb (by omega) (by omega) 30 dX6_isCouple_9 (by decide) (fun c_9 => ?_) (fun c_9 => ?_)
  · refine lv_iconst (v := nI 0) hx hb dX6_isCouple_30 (by decide) ?_
    exact ret false () 31 ls s.heap [] dX6_isCouple_31 (congrArg bI (by exact (decide_eq_false (fun q => c_9 q.1)).symm)) (hw)
  · refine lv_aload_n hx hb dX6_isCouple_12 rfl (lv_at hl 0 rfl) ?_
    refine z_get cx hw 0 0 rfl rfl inlX6 (by decide) wd_70 rfl dX6_isCouple_13 ?_
    refine lv_iconst (v := nI 4) hx hb dX6_isCouple_16 (by decide) ?_
    refine lv_iload_n hx hb dX6_isCouple_17 rfl (lv_at hl 1 rfl) ?_
    refine z_imul hx hb (4 * k) rfl dX6_isCouple_18 ?_
    refine lv_iconst (v := nI 1) hx hb dX6_isCouple_19 (by decide) ?_
    refine z_iadd hx hb ((4 * k) + 1) rfl dX6_isCouple_20 ?_
    refine z_aldN cx hw 1 rfl (4 * k + 1) (congrArg nI (by omega)) (by omega) (by decide) dX6_isCouple_21 ?_
    have b1_ := hF (4 * k + 1) (by omega)
    refine lv_iload_n hx hb dX6_isCouple_22 rfl (lv_at hl 3 rfl) ?_
    refine z_icmp_ne hx hb (by omega) (by omega) 30 dX6_isCouple_23 (by decide) (fun c_23 => ?_) (fun c_23 => ?_)
    · refine lv_iconst (v := nI 0) hx hb dX6_isCouple_30 (by decide) ?_
      exact ret false () 31 ls s.heap [] dX6_isCouple_31 (congrArg bI (by exact (decide_eq_false (fun q => c_23 q.2)).symm)) (hw)
    · refine lv_iconst (v := nI 1) hx hb dX6_isCouple_26 (by decide) ?_
      refine lv_goto (tgt := 31) hx hb dX6_isCouple_27 (by decide) ?_
      exact ret true () 31 ls s.heap [] dX6_isCouple_31 (congrArg bI (by exact (decide_eq_true ⟨c_9, c_23⟩).symm)) (hw)

def rmX6_finds : Room := { frames := 1, cells := 0, slots := 0, locals := 23 }
set_option maxHeartbeats 4000000 in
set_option maxRecDepth 100000 in
theorem c_X6_finds (l : Launch) (E : ZE) (h0 aN aH aO aR aL aG aT aE aB aV : Nat) (ed mc : Nat) (Nw : Nat → Nat) (Ob Rv Lo Hi : Nat → Nat) (hn : Nw 96 ≤ 24) (hF : ∀ j, j < 96 → Nw j < 10) (hW : ∀ k sd, k < 24 → sd < 2 → Nw (4 * k + 2 + sd) ≤ 5) (hB : Bd Ob ∧ Bd Rv ∧ Bd Lo ∧ Bd Hi) : ZMv l yX6_finds cX6_finds 7 rmX6_finds E [.ref h0] [(h0, ob 6 [.ref aN, .ref aH, .int (nI ed), .int (nI mc), .ref aO, .ref aR, .ref aL, .ref aG, .ref aT, .ref aE, .ref aB, .ref aV]), (aN, ia E 97 (nA Nw)), (aO, ia E 24 (nA Ob)), (aR, ia E 24 (nA Rv)), (aL, ia E 48 (nA Lo)), (aG, ia E 48 (nA Hi))] (S := (Nat → Nat) × (Nat → Nat) × (Nat → Nat) × (Nat → Nat)) (fun u => FI Nw (Nw 96) 100 u.1 u.2.1 u.2.2.1 u.2.2.2 ∧ Bd u.1 ∧ Bd u.2.1 ∧ Bd u.2.2.1 ∧ Bd u.2.2.2) (fun u => [(h0, ob 6 [.ref aN, .ref aH, .int (nI ed), .int (nI (rk (hasP Nw (Nw 96)) 100)), .ref aO, .ref aR, .ref aL, .ref aG, .ref aT, .ref aE, .ref aB, .ref aV]), (aN, ia E 97 (nA Nw)), (aO, ia E 24 (nA u.1)), (aR, ia E 24 (nA u.2.1)), (aL, ia E 48 (nA u.2.2.1)), (aG, ia E 48 (nA u.2.2.2))]) := by
  refine z_mv (by decide) (Nat.le_of_ble_eq_true rfl) ?_
  intro p e s m args below meth c A Q ls cx hin hw hl ret
  obtain ⟨hx, hb, hml, hown, hts, hK, hN, hA, hlk⟩ := id cx
  have hl : lv_has ls 7 [(0, .ref h0)] := hl
  refine lv_aload_n hx hb dX6_finds_0 rfl (lv_at hl 0 rfl) ?_
  refine lv_iconst (v := nI 0) hx hb dX6_finds_1 (by decide) ?_
  refine z_put cx hw 0 3 rfl rfl inlX6 tyX6_ok nmX6 (by decide) wd_283 rfl rfl rfl (Nat.le_of_ble_eq_true rfl) dX6_finds_2 (fun H locs hw => ?_)
  have hw : ZW E A s [(h0, ob 6 [.ref aN, .ref aH, .int (nI ed), .int (nI 0), .ref aO, .ref aR, .ref aL, .ref aG, .ref aT, .ref aE, .ref aB, .ref aV]), (aN, ia E 97 (nA Nw)), (aO, ia E 24 (nA Ob)), (aR, ia E 24 (nA Rv)), (aL, ia E 48 (nA Lo)), (aG, ia E 48 (nA Hi))] H locs := hw
  refine lv_iconst (v := nI 0) hx hb dX6_finds_5 (by decide) ?_
  refine lv_istore_n (lv' := [(1, .int (nI 0)), (0, .ref h0)]) hx hb dX6_finds_6 rfl hl (by decide) rfl (fun ls hl => ?_)
  have loop_7 : ∀ (fuel : Nat) (k : Nat) (Ob : Nat → Nat) (Rv : Nat → Nat) (Lo : Nat → Nat) (Hi : Nat → Nat) (hk : k ≤ 100) (hI : FI Nw (Nw 96) k Ob Rv Lo Hi) (hBo : Bd Ob) (hBr : Bd Rv) (hBl : Bd Lo) (hBh : Bd Hi) (hm : 100 - k < fuel) (H : Heap) (locs : List Loc) (ls : Array Slot), ZW E A s [(h0, ob 6 [.ref aN, .ref aH, .int (nI ed), .int (nI (rk (hasP Nw (Nw 96)) k)), .ref aO, .ref aR, .ref aL, .ref aG, .ref aT, .ref aE, .ref aB, .ref aV]), (aN, ia E 97 (nA Nw)), (aO, ia E 24 (nA Ob)), (aR, ia E 24 (nA Rv)), (aL, ia E 48 (nA Lo)), (aG, ia E 48 (nA Hi))] H locs → lv_has ls 7 [(0, .ref h0), (1, .int (nI k))] → W p l e rmX6_finds s m args below meth c H locs 0 0 Q (F0 m 7 ls []) := by
    intro fuel
    induction fuel with
    | zero => intro k Ob Rv Lo Hi hk hI hBo hBr hBl hBh hm; exact absurd hm (Nat.not_lt_zero _)
    | succ fuel ih_7 =>
      intro k Ob Rv Lo Hi hk hI hBo hBr hBl hBh hm H locs ls hw hl
      refine lv_iload_n hx hb dX6_finds_7 rfl (lv_at hl 1 rfl) ?_
      refine lv_bipush (v := nI 100) hx hb dX6_finds_8 (by decide) ?_
      refine z_icmp_ge hx hb (by omega) (by decide) 210 dX6_finds_10 (by decide) (fun c_10 => ?_) (fun c_10 => ?_)
      · have e_ : k = 100 := by omega
        rw [e_] at hI
        have e_r210_0 : (rk (hasP Nw (Nw 96)) k) = (rk (hasP Nw (Nw 96)) 100) := by rw [e_]
        exact ret (Ob, Rv, Lo, Hi) 210 ls H locs dX6_finds_210 (⟨hI, hBo, hBr, hBl, hBh⟩) ((hw).cast (zc (congrArg (fun z => ((h0, ob 6 [.ref aN, .ref aH, .int (nI ed), .int (nI z), .ref aO, .ref aR, .ref aL, .ref aG, .ref aT, .ref aE, .ref aB, .ref aV]) : Nat × va_E)) e_r210_0) rfl))
      · refine lv_iconst (v := nI 0) hx hb dX6_finds_13 (by decide) ?_
        refine lv_istore_n (lv' := [(2, .int (nI 0)), (0, .ref h0), (1, .int (nI k))]) hx hb dX6_finds_14 rfl hl (by decide) rfl (fun ls hl => ?_)
        refine lv_iconst (v := nI 0) hx hb dX6_finds_15 (by decide) ?_
        refine lv_istore_n (lv' := [(3, .int (nI 0)), (2, .int (nI 0)), (0, .ref h0), (1, .int (nI k))]) hx hb dX6_finds_16 rfl hl (by decide) rfl (fun ls hl => ?_)
        have loop_17 : ∀ (fuel : Nat) (i : Nat) (Lo : Nat → Nat) (Hi : Nat → Nat) (hi : i ≤ Nw 96) (hI : FI Nw (Nw 96) k Ob Rv Lo Hi) (hJ : FJ Nw (Nw 96) k i Lo Hi) (hBl : Bd Lo) (hBh : Bd Hi) (hm : Nw 96 - i < fuel) (H : Heap) (locs : List Loc) (ls : Array Slot), ZW E A s [(h0, ob 6 [.ref aN, .ref aH, .int (nI ed), .int (nI (rk (hasP Nw (Nw 96)) k)), .ref aO, .ref aR, .ref aL, .ref aG, .ref aT, .ref aE, .ref aB, .ref aV]), (aN, ia E 97 (nA Nw)), (aO, ia E 24 (nA Ob)), (aR, ia E 24 (nA Rv)), (aL, ia E 48 (nA Lo)), (aG, ia E 48 (nA Hi))] H locs → lv_has ls 7 [(0, .ref h0), (1, .int (nI k)), (2, .int (bI (hasP Nw i k))), (3, .int (nI i))] → W p l e rmX6_finds s m args below meth c H locs 0 0 Q (F0 m 17 ls []) := by
          intro fuel
          induction fuel with
          | zero => intro i Lo Hi hi hI hJ hBl hBh hm; exact absurd hm (Nat.not_lt_zero _)
          | succ fuel ih_17 =>
            intro i Lo Hi hi hI hJ hBl hBh hm H locs ls hw hl
            refine lv_iload_n hx hb dX6_finds_17 rfl (lv_at hl 3 rfl) ?_
            refine lv_aload_n hx hb dX6_finds_18 rfl (lv_at hl 0 rfl) ?_
            refine z_get cx hw 0 0 rfl rfl inlX6 (by decide) wd_70 rfl dX6_finds_19 ?_
            refine lv_bipush (v := nI 96) hx hb dX6_finds_22 (by decide) ?_
            refine z_aldN cx hw 1 rfl (96) rfl (by omega) (by decide) dX6_finds_24 ?_
            refine z_icmp_ge hx hb (by omega) (by omega) 164 dX6_finds_25 (by decide) (fun c_25 => ?_) (fun c_25 => ?_)
            · refine lv_iload_n hx hb dX6_finds_164 rfl (lv_at hl 2 rfl) ?_
              refine z_ifb_eq hx hb 204 dX6_finds_165 (by decide) (fun c_165 => ?_) (fun c_165 => ?_)
              · refine lv_iinc (v := nI (k + 1)) (lv' := [(1, .int (nI (k + 1))), (0, .ref h0), (2, .int (bI (hasP Nw i k))), (3, .int (nI i))]) hx hb dX6_finds_204 hl (k := 1) rfl (nI_1 _) (by decide) rfl (fun ls hl => ?_)
                refine lv_goto (tgt := 7) hx hb dX6_finds_207 (by decide) ?_
                have ei_ : i = Nw 96 := by omega
                rw [ei_] at c_165 hJ
                have e_b7_0 : (rk (hasP Nw (Nw 96)) k) = (rk (hasP Nw (Nw 96)) (k + 1)) := by simp [rk, c_165]
                exact ih_7 (k + 1) Ob Rv Lo Hi (by omega) (hI.pass c_165) (hBo) (hBr) (hBl) (hBh) (by omega) _ _ ls ((hw).cast (zc (congrArg (fun z => ((h0, ob 6 [.ref aN, .ref aH, .int (nI ed), .int (nI z), .ref aO, .ref aR, .ref aL, .ref aG, .ref aT, .ref aE, .ref aB, .ref aV]) : Nat × va_E)) e_b7_0) rfl)) (lv_add (lv_add (lv_nil hl) (lv_at hl 0 rfl)) (lv_at hl 1 rfl))
              · have hP_ : hasP Nw (Nw 96) k = true := by rw [show i = Nw 96 from by omega] at c_165; exact c_165
                have hrk_ := rk_lt (hasP Nw (Nw 96)) (j := 100) c_10 hP_
                have hle_ := rk_hasP Nw (Nw 96) 100
                refine lv_aload_n hx hb dX6_finds_168 rfl (lv_at hl 0 rfl) ?_
                refine z_get cx hw 0 4 rfl rfl inlX6 (by decide) wd_72 rfl dX6_finds_169 ?_
                refine lv_aload_n hx hb dX6_finds_172 rfl (lv_at hl 0 rfl) ?_
                refine z_get cx hw 0 3 rfl rfl inlX6 (by decide) wd_283 rfl dX6_finds_173 ?_
                refine lv_iload_n hx hb dX6_finds_176 rfl (lv_at hl 1 rfl) ?_
                refine lv_bipush (v := nI 10) hx hb dX6_finds_177 (by decide) ?_
                refine z_idiv hx hb (k / 10) (by omega) (by omega) (by omega) rfl dX6_finds_179 ?_
                refine z_astN cx hw 2 rfl (rk (hasP Nw (Nw 96)) k) rfl (by omega) (by decide) dX6_finds_180 (fun H locs hw => ?_)
                have hw : ZW E A s [(h0, ob 6 [.ref aN, .ref aH, .int (nI ed), .int (nI (rk (hasP Nw (Nw 96)) k)), .ref aO, .ref aR, .ref aL, .ref aG, .ref aT, .ref aE, .ref aB, .ref aV]), (aN, ia E 97 (nA Nw)), (aO, ia E 24 (nA (updN Ob (rk (hasP Nw (Nw 96)) k) (k / 10)))), (aR, ia E 24 (nA Rv)), (aL, ia E 48 (nA Lo)), (aG, ia E 48 (nA Hi))] H locs := hw
                refine lv_aload_n hx hb dX6_finds_181 rfl (lv_at hl 0 rfl) ?_
                refine z_get cx hw 0 5 rfl rfl inlX6 (by decide) wd_73 rfl dX6_finds_182 ?_
                refine lv_aload_n hx hb dX6_finds_185 rfl (lv_at hl 0 rfl) ?_
                refine z_get cx hw 0 3 rfl rfl inlX6 (by decide) wd_283 rfl dX6_finds_186 ?_
                refine lv_iload_n hx hb dX6_finds_189 rfl (lv_at hl 1 rfl) ?_
                refine lv_bipush (v := nI 10) hx hb dX6_finds_190 (by decide) ?_
                refine z_irem hx hb (k % 10) (by omega) (by omega) (by omega) rfl dX6_finds_192 ?_
                refine z_astN cx hw 3 rfl (rk (hasP Nw (Nw 96)) k) rfl (by omega) (by decide) dX6_finds_193 (fun H locs hw => ?_)
                have hw : ZW E A s [(h0, ob 6 [.ref aN, .ref aH, .int (nI ed), .int (nI (rk (hasP Nw (Nw 96)) k)), .ref aO, .ref aR, .ref aL, .ref aG, .ref aT, .ref aE, .ref aB, .ref aV]), (aN, ia E 97 (nA Nw)), (aO, ia E 24 (nA (updN Ob (rk (hasP Nw (Nw 96)) k) (k / 10)))), (aR, ia E 24 (nA (updN Rv (rk (hasP Nw (Nw 96)) k) (k % 10)))), (aL, ia E 48 (nA Lo)), (aG, ia E 48 (nA Hi))] H locs := hw
                refine lv_aload_n hx hb dX6_finds_194 rfl (lv_at hl 0 rfl) ?_
                refine lv_dup hx hb dX6_finds_195 rfl ?_
                refine z_get cx hw 0 3 rfl rfl inlX6 (by decide) wd_283 rfl dX6_finds_196 ?_
                refine lv_iconst (v := nI 1) hx hb dX6_finds_199 (by decide) ?_
                refine z_iadd hx hb ((rk (hasP Nw (Nw 96)) k) + 1) rfl dX6_finds_200 ?_
                refine z_put cx hw 0 3 rfl rfl inlX6 tyX6_ok nmX6 (by decide) wd_283 rfl rfl rfl (Nat.le_of_ble_eq_true rfl) dX6_finds_201 (fun H locs hw => ?_)
                have hw : ZW E A s [(h0, ob 6 [.ref aN, .ref aH, .int (nI ed), .int (nI ((rk (hasP Nw (Nw 96)) k) + 1)), .ref aO, .ref aR, .ref aL, .ref aG, .ref aT, .ref aE, .ref aB, .ref aV]), (aN, ia E 97 (nA Nw)), (aO, ia E 24 (nA (updN Ob (rk (hasP Nw (Nw 96)) k) (k / 10)))), (aR, ia E 24 (nA (updN Rv (rk (hasP Nw (Nw 96)) k) (k % 10)))), (aL, ia E 48 (nA Lo)), (aG, ia E 48 (nA Hi))] H locs := hw
                refine lv_iinc (v := nI (k + 1)) (lv' := [(1, .int (nI (k + 1))), (0, .ref h0), (2, .int (bI (hasP Nw i k))), (3, .int (nI i))]) hx hb dX6_finds_204 hl (k := 1) rfl (nI_1 _) (by decide) rfl (fun ls hl => ?_)
                refine lv_goto (tgt := 7) hx hb dX6_finds_207 (by decide) ?_
                have ei_ : i = Nw 96 := by omega
                rw [ei_] at c_165 hJ
                have e_b7_0 : ((rk (hasP Nw (Nw 96)) k) + 1) = (rk (hasP Nw (Nw 96)) (k + 1)) := by simp [rk, c_165]
                exact ih_7 (k + 1) (updN Ob (rk (hasP Nw (Nw 96)) k) (k / 10)) (updN Rv (rk (hasP Nw (Nw 96)) k) (k % 10)) Lo Hi (by omega) (hI.push hJ c_165) (hBo.upd (by omega)) (hBr.upd (by omega)) (hBl) (hBh) (by omega) _ _ ls ((hw).cast (zc (congrArg (fun z => ((h0, ob 6 [.ref aN, .ref aH, .int (nI ed), .int (nI z), .ref aO, .ref aR, .ref aL, .ref aG, .ref aT, .ref aE, .ref aB, .ref aV]) : Nat × va_E)) e_b7_0) rfl)) (lv_add (lv_add (lv_nil hl) (lv_at hl 0 rfl)) (lv_at hl 1 rfl))
            · refine lv_aload_n hx hb dX6_finds_28 rfl (lv_at hl 0 rfl) ?_
              refine lv_iload_n hx hb dX6_finds_29 rfl (lv_at hl 3 rfl) ?_
              refine lv_iload_n hx hb dX6_finds_30 rfl (lv_at hl 1 rfl) ?_
              refine lv_bipush (v := nI 10) hx hb dX6_finds_31 (by decide) ?_
              refine z_idiv hx hb (k / 10) (by omega) (by omega) (by omega) rfl dX6_finds_33 ?_
              refine lv_iload_n hx hb dX6_finds_34 rfl (lv_at hl 1 rfl) ?_
              refine lv_bipush (v := nI 10) hx hb dX6_finds_35 (by decide) ?_
              refine z_irem hx hb (k % 10) (by omega) (by omega) (by omega) rfl dX6_finds_37 ?_
              refine z_ri0 (wr := [(aO, ia E 24 (nA Ob)), (aR, ia E 24 (nA Rv)), (aL, ia E 48 (nA Lo)), (aG, ia E 48 (nA Hi))]) cx hw [0, 1] [2, 3, 4, 5] rfl rfl (by decide) (by decide) rfl rfl (z_runV (As := [.int (nI i), .int (nI (k / 10)), .int (nI (k % 10))]) (rest := []) cx hw rfl rfl [0, 1] rfl rfl (c_X6_isCouple l E h0 aN aH aO aR aL aG aT aE aB aV ed (rk (hasP Nw (Nw 96)) k) Nw i (k / 10) (k % 10) (by omega) (hF) (by omega) (by omega) (by omega) H.size) mf_X6_isCouple wd_288 ⟨Nat.le_of_ble_eq_true rfl, Nat.le_of_ble_eq_true rfl⟩ hl (Nat.le_of_ble_eq_true rfl) dX6_finds_38 ⟨Nat.le_of_ble_eq_true rfl, Nat.le_of_ble_eq_true rfl⟩) (fun r _ H locs hp hw => ?_)
              have hr_38 := hp
              have hr_38 : r = bI (decide (Nw (4 * i + 0) = (k / 10) ∧ Nw (4 * i + 1) = (k % 10))) := hr_38
              subst hr_38
              have hw : ZW E A s [(aO, ia E 24 (nA Ob)), (aR, ia E 24 (nA Rv)), (aL, ia E 48 (nA Lo)), (aG, ia E 48 (nA Hi)), (h0, ob 6 [.ref aN, .ref aH, .int (nI ed), .int (nI (rk (hasP Nw (Nw 96)) k)), .ref aO, .ref aR, .ref aL, .ref aG, .ref aT, .ref aE, .ref aB, .ref aV]), (aN, ia E 97 (nA Nw))] H locs := hw
              rw [show decide (Nw (4 * i + 0) = k / 10 ∧ Nw (4 * i + 1) = k % 10) = decide (pr Nw i = k) from decide_eq_decide.mpr (pr_iff (hF _ (by omega)) (hF _ (by omega)))]
              refine z_ifb_eq hx hb 158 dX6_finds_41 (by decide) (fun c_41 => ?_) (fun c_41 => ?_)
              · refine lv_iinc (v := nI (i + 1)) (lv' := [(3, .int (nI (i + 1))), (0, .ref h0), (1, .int (nI k)), (2, .int (bI (hasP Nw i k)))]) hx hb dX6_finds_158 hl (k := 3) rfl (nI_1 _) (by decide) rfl (fun ls hl => ?_)
                refine lv_goto (tgt := 17) hx hb dX6_finds_161 (by decide) ?_
                exact ih_17 (i + 1) Lo Hi (by omega) (hI) (hJ.skip (by simpa using c_41)) (hBl) (hBh) (by omega) _ _ ls (hw.perm [4, 5, 0, 1, 2, 3] rfl (by decide)) (lv_add (lv_add (lv_add (lv_add (lv_nil hl) (lv_at hl 0 rfl)) (lv_eqv (lv_at hl 3 rfl) (zB (by simp [hasP, c_41])))) (lv_at hl 2 rfl)) (lv_at hl 1 rfl))
              · have hP_ : hasP Nw (Nw 96) k = true := (hasP_iff Nw _ _).mpr ⟨i, c_25, by simpa using c_41⟩
                have hrk_ := rk_lt (hasP Nw (Nw 96)) (j := 100) c_10 hP_
                have hle_ := rk_hasP Nw (Nw 96) 100
                refine lv_iconst (v := nI 0) hx hb dX6_finds_44 (by decide) ?_
                refine lv_istore (lv' := [(4, .int (nI 0)), (0, .ref h0), (1, .int (nI k)), (2, .int (bI (hasP Nw i k))), (3, .int (nI i))]) hx hb dX6_finds_45 hl (by decide) rfl (fun ls hl => ?_)
                refine lv_iload hx hb dX6_finds_47 (lv_at hl 0 rfl) ?_
                refine lv_iconst (v := nI 2) hx hb dX6_finds_49 (by decide) ?_
                refine z_icmp_ge hx hb (by decide) (by decide) 156 dX6_finds_50 (by decide) (fun c => absurd c (by decide)) (fun _ => ?_)
                refine lv_aload_n hx hb dX6_finds_53 rfl (lv_at hl 1 rfl) ?_
                refine z_get cx hw 4 0 rfl rfl inlX6 (by decide) wd_70 rfl dX6_finds_54 ?_
                refine lv_iconst (v := nI 4) hx hb dX6_finds_57 (by decide) ?_
                refine lv_iload_n hx hb dX6_finds_58 rfl (lv_at hl 4 rfl) ?_
                refine z_imul hx hb (4 * i) rfl dX6_finds_59 ?_
                refine lv_iconst (v := nI 2) hx hb dX6_finds_60 (by decide) ?_
                refine z_iadd hx hb ((4 * i) + 2) rfl dX6_finds_61 ?_
                refine lv_iload hx hb dX6_finds_62 (lv_at hl 0 rfl) ?_
                refine z_iadd hx hb ((4 * i) + 2) rfl dX6_finds_64 ?_
                refine z_aldN cx hw 5 rfl (4 * i + 2 + 0) (congrArg nI (by omega)) (by omega) (by decide) dX6_finds_65 ?_
                refine lv_istore (lv' := [(5, .int (nI (Nw (4 * i + 2 + 0)))), (4, .int (nI 0)), (0, .ref h0), (1, .int (nI k)), (2, .int (bI (hasP Nw i k))), (3, .int (nI i))]) hx hb dX6_finds_66 hl (by decide) rfl (fun ls hl => ?_)
                refine lv_bipush (v := nI 24) hx hb dX6_finds_68 (by decide) ?_
                refine lv_iload hx hb dX6_finds_70 (lv_at hl 1 rfl) ?_
                refine z_imul hx hb (0) rfl dX6_finds_72 ?_
                refine lv_aload_n hx hb dX6_finds_73 rfl (lv_at hl 2 rfl) ?_
                refine z_get cx hw 4 3 rfl rfl inlX6 (by decide) wd_283 rfl dX6_finds_74 ?_
                refine z_iadd hx hb (rk (hasP Nw (Nw 96)) k) (Nat.zero_add _) dX6_finds_77 ?_
                refine lv_istore (lv' := [(6, .int (nI (rk (hasP Nw (Nw 96)) k))), (5, .int (nI (Nw (4 * i + 2 + 0)))), (4, .int (nI 0)), (0, .ref h0), (1, .int (nI k)), (2, .int (bI (hasP Nw i k))), (3, .int (nI i))]) hx hb dX6_finds_78 hl (by decide) rfl (fun ls hl => ?_)
                refine lv_aload_n hx hb dX6_finds_80 rfl (lv_at hl 3 rfl) ?_
                refine z_get cx hw 4 6 rfl rfl inlX6 (by decide) wd_74 rfl dX6_finds_81 ?_
                refine lv_iload hx hb dX6_finds_84 (lv_at hl 0 rfl) ?_
                refine lv_iload_n hx hb dX6_finds_86 rfl (lv_at hl 5 rfl) ?_
                have bw_ := hW i 0 (by omega) (by decide)
                have bw2_ := hW i 1 (by omega) (by decide)
                have j_114 : ∀ (H : Heap) (locs : List Loc), ZW E A s [(aO, ia E 24 (nA Ob)), (aR, ia E 24 (nA Rv)), (aL, ia E 48 (nA Lo)), (aG, ia E 48 (nA Hi)), (h0, ob 6 [.ref aN, .ref aH, .int (nI ed), .int (nI (rk (hasP Nw (Nw 96)) k)), .ref aO, .ref aR, .ref aL, .ref aG, .ref aT, .ref aE, .ref aB, .ref aV]), (aN, ia E 97 (nA Nw))] H locs → W p l e rmX6_finds s m args below meth c H locs 0 0 Q (F0 m 114 ls [.int (nI (lwn (hasP Nw i k) (Lo (rk (hasP Nw (Nw 96)) k)) (Nw (4 * i + 2 + 0)))), .int (nI (rk (hasP Nw (Nw 96)) k)), .ref aL]) := by
                  intro H locs hw
                  refine z_astN cx hw 2 rfl (rk (hasP Nw (Nw 96)) k) rfl (by omega) (by decide) dX6_finds_114 (fun H locs hw => ?_)
                  have hw : ZW E A s [(aO, ia E 24 (nA Ob)), (aR, ia E 24 (nA Rv)), (aL, ia E 48 (nA (updN Lo (rk (hasP Nw (Nw 96)) k) (lwn (hasP Nw i k) (Lo (rk (hasP Nw (Nw 96)) k)) (Nw (4 * i + 2 + 0)))))), (aG, ia E 48 (nA Hi)), (h0, ob 6 [.ref aN, .ref aH, .int (nI ed), .int (nI (rk (hasP Nw (Nw 96)) k)), .ref aO, .ref aR, .ref aL, .ref aG, .ref aT, .ref aE, .ref aB, .ref aV]), (aN, ia E 97 (nA Nw))] H locs := hw
                  refine lv_aload_n hx hb dX6_finds_115 rfl (lv_at hl 3 rfl) ?_
                  refine z_get cx hw 4 7 rfl rfl inlX6 (by decide) wd_75 rfl dX6_finds_116 ?_
                  refine lv_iload hx hb dX6_finds_119 (lv_at hl 0 rfl) ?_
                  refine lv_iload_n hx hb dX6_finds_121 rfl (lv_at hl 5 rfl) ?_
                  have bw_ := hW i 0 (by omega) (by decide)
                  have bw2_ := hW i 1 (by omega) (by decide)
                  have j_149 : ∀ (H : Heap) (locs : List Loc), ZW E A s [(aO, ia E 24 (nA Ob)), (aR, ia E 24 (nA Rv)), (aL, ia E 48 (nA (updN Lo (rk (hasP Nw (Nw 96)) k) (lwn (hasP Nw i k) (Lo (rk (hasP Nw (Nw 96)) k)) (Nw (4 * i + 2 + 0)))))), (aG, ia E 48 (nA Hi)), (h0, ob 6 [.ref aN, .ref aH, .int (nI ed), .int (nI (rk (hasP Nw (Nw 96)) k)), .ref aO, .ref aR, .ref aL, .ref aG, .ref aT, .ref aE, .ref aB, .ref aV]), (aN, ia E 97 (nA Nw))] H locs → W p l e rmX6_finds s m args below meth c H locs 0 0 Q (F0 m 149 ls [.int (nI (hwn (hasP Nw i k) (Hi (rk (hasP Nw (Nw 96)) k)) (Nw (4 * i + 2 + 0)))), .int (nI (rk (hasP Nw (Nw 96)) k)), .ref aG]) := by
                    intro H locs hw
                    refine z_astN cx hw 3 rfl (rk (hasP Nw (Nw 96)) k) rfl (by omega) (by decide) dX6_finds_149 (fun H locs hw => ?_)
                    have hw : ZW E A s [(aO, ia E 24 (nA Ob)), (aR, ia E 24 (nA Rv)), (aL, ia E 48 (nA (updN Lo (rk (hasP Nw (Nw 96)) k) (lwn (hasP Nw i k) (Lo (rk (hasP Nw (Nw 96)) k)) (Nw (4 * i + 2 + 0)))))), (aG, ia E 48 (nA (updN Hi (rk (hasP Nw (Nw 96)) k) (hwn (hasP Nw i k) (Hi (rk (hasP Nw (Nw 96)) k)) (Nw (4 * i + 2 + 0)))))), (h0, ob 6 [.ref aN, .ref aH, .int (nI ed), .int (nI (rk (hasP Nw (Nw 96)) k)), .ref aO, .ref aR, .ref aL, .ref aG, .ref aT, .ref aE, .ref aB, .ref aV]), (aN, ia E 97 (nA Nw))] H locs := hw
                    refine lv_iinc (v := nI 1) (lv' := [(4, .int (nI 1)), (6, .int (nI (rk (hasP Nw (Nw 96)) k))), (5, .int (nI (Nw (4 * i + 2 + 0)))), (0, .ref h0), (1, .int (nI k)), (2, .int (bI (hasP Nw i k))), (3, .int (nI i))]) hx hb dX6_finds_150 hl (k := 2) rfl (nI_1 _) (by decide) rfl (fun ls hl => ?_)
                    refine lv_goto (tgt := 47) hx hb dX6_finds_153 (by decide) ?_
                    refine lv_iload hx hb dX6_finds_47 (lv_at hl 0 rfl) ?_
                    refine lv_iconst (v := nI 2) hx hb dX6_finds_49 (by decide) ?_
                    refine z_icmp_ge hx hb (by decide) (by decide) 156 dX6_finds_50 (by decide) (fun c => absurd c (by decide)) (fun _ => ?_)
                    refine lv_aload_n hx hb dX6_finds_53 rfl (lv_at hl 3 rfl) ?_
                    refine z_get cx hw 4 0 rfl rfl inlX6 (by decide) wd_70 rfl dX6_finds_54 ?_
                    refine lv_iconst (v := nI 4) hx hb dX6_finds_57 (by decide) ?_
                    refine lv_iload_n hx hb dX6_finds_58 rfl (lv_at hl 6 rfl) ?_
                    refine z_imul hx hb (4 * i) rfl dX6_finds_59 ?_
                    refine lv_iconst (v := nI 2) hx hb dX6_finds_60 (by decide) ?_
                    refine z_iadd hx hb ((4 * i) + 2) rfl dX6_finds_61 ?_
                    refine lv_iload hx hb dX6_finds_62 (lv_at hl 0 rfl) ?_
                    refine z_iadd hx hb (((4 * i) + 2) + 1) rfl dX6_finds_64 ?_
                    refine z_aldN cx hw 5 rfl (4 * i + 2 + 1) (congrArg nI (by omega)) (by omega) (by decide) dX6_finds_65 ?_
                    refine lv_istore (lv' := [(5, .int (nI (Nw (4 * i + 2 + 1)))), (4, .int (nI 1)), (6, .int (nI (rk (hasP Nw (Nw 96)) k))), (0, .ref h0), (1, .int (nI k)), (2, .int (bI (hasP Nw i k))), (3, .int (nI i))]) hx hb dX6_finds_66 hl (by decide) rfl (fun ls hl => ?_)
                    refine lv_bipush (v := nI 24) hx hb dX6_finds_68 (by decide) ?_
                    refine lv_iload hx hb dX6_finds_70 (lv_at hl 1 rfl) ?_
                    refine z_imul hx hb (24) rfl dX6_finds_72 ?_
                    refine lv_aload_n hx hb dX6_finds_73 rfl (lv_at hl 3 rfl) ?_
                    refine z_get cx hw 4 3 rfl rfl inlX6 (by decide) wd_283 rfl dX6_finds_74 ?_
                    refine z_iadd hx hb (24 + (rk (hasP Nw (Nw 96)) k)) rfl dX6_finds_77 ?_
                    refine lv_istore (lv' := [(6, .int (nI (24 + (rk (hasP Nw (Nw 96)) k)))), (5, .int (nI (Nw (4 * i + 2 + 1)))), (4, .int (nI 1)), (0, .ref h0), (1, .int (nI k)), (2, .int (bI (hasP Nw i k))), (3, .int (nI i))]) hx hb dX6_finds_78 hl (by decide) rfl (fun ls hl => ?_)
                    refine lv_aload_n hx hb dX6_finds_80 rfl (lv_at hl 3 rfl) ?_
                    refine z_get cx hw 4 6 rfl rfl inlX6 (by decide) wd_74 rfl dX6_finds_81 ?_
                    refine lv_iload hx hb dX6_finds_84 (lv_at hl 0 rfl) ?_
                    refine lv_iload_n hx hb dX6_finds_86 rfl (lv_at hl 5 rfl) ?_
                    have bw_ := hW i 0 (by omega) (by decide)
                    have bw2_ := hW i 1 (by omega) (by decide)
                    have j_114 : ∀ (H : Heap) (locs : List Loc), ZW E A s [(aO, ia E 24 (nA Ob)), (aR, ia E 24 (nA Rv)), (aL, ia E 48 (nA (updN Lo (rk (hasP Nw (Nw 96)) k) (lwn (hasP Nw i k) (Lo (rk (hasP Nw (Nw 96)) k)) (Nw (4 * i + 2 + 0)))))), (aG, ia E 48 (nA (updN Hi (rk (hasP Nw (Nw 96)) k) (hwn (hasP Nw i k) (Hi (rk (hasP Nw (Nw 96)) k)) (Nw (4 * i + 2 + 0)))))), (h0, ob 6 [.ref aN, .ref aH, .int (nI ed), .int (nI (rk (hasP Nw (Nw 96)) k)), .ref aO, .ref aR, .ref aL, .ref aG, .ref aT, .ref aE, .ref aB, .ref aV]), (aN, ia E 97 (nA Nw))] H locs → W p l e rmX6_finds s m args below meth c H locs 0 0 Q (F0 m 114 ls [.int (nI (lwn (hasP Nw i k) ((updN Lo (rk (hasP Nw (Nw 96)) k) (lwn (hasP Nw i k) (Lo (rk (hasP Nw (Nw 96)) k)) (Nw (4 * i + 2 + 0)))) (24 + (rk (hasP Nw (Nw 96)) k))) (Nw (4 * i + 2 + 1)))), .int (nI (24 + (rk (hasP Nw (Nw 96)) k))), .ref aL]) := by
                      intro H locs hw
                      refine z_astN cx hw 2 rfl (24 + (rk (hasP Nw (Nw 96)) k)) rfl (by omega) (by decide) dX6_finds_114 (fun H locs hw => ?_)
                      have hw : ZW E A s [(aO, ia E 24 (nA Ob)), (aR, ia E 24 (nA Rv)), (aL, ia E 48 (nA (updN (updN Lo (rk (hasP Nw (Nw 96)) k) (lwn (hasP Nw i k) (Lo (rk (hasP Nw (Nw 96)) k)) (Nw (4 * i + 2 + 0)))) (24 + (rk (hasP Nw (Nw 96)) k)) (lwn (hasP Nw i k) ((updN Lo (rk (hasP Nw (Nw 96)) k) (lwn (hasP Nw i k) (Lo (rk (hasP Nw (Nw 96)) k)) (Nw (4 * i + 2 + 0)))) (24 + (rk (hasP Nw (Nw 96)) k))) (Nw (4 * i + 2 + 1)))))), (aG, ia E 48 (nA (updN Hi (rk (hasP Nw (Nw 96)) k) (hwn (hasP Nw i k) (Hi (rk (hasP Nw (Nw 96)) k)) (Nw (4 * i + 2 + 0)))))), (h0, ob 6 [.ref aN, .ref aH, .int (nI ed), .int (nI (rk (hasP Nw (Nw 96)) k)), .ref aO, .ref aR, .ref aL, .ref aG, .ref aT, .ref aE, .ref aB, .ref aV]), (aN, ia E 97 (nA Nw))] H locs := hw
                      refine lv_aload_n hx hb dX6_finds_115 rfl (lv_at hl 3 rfl) ?_
                      refine z_get cx hw 4 7 rfl rfl inlX6 (by decide) wd_75 rfl dX6_finds_116 ?_
                      refine lv_iload hx hb dX6_finds_119 (lv_at hl 0 rfl) ?_
                      refine lv_iload_n hx hb dX6_finds_121 rfl (lv_at hl 5 rfl) ?_
                      have bw_ := hW i 0 (by omega) (by decide)
                      have bw2_ := hW i 1 (by omega) (by decide)
                      have j_149 : ∀ (H : Heap) (locs : List Loc), ZW E A s [(aO, ia E 24 (nA Ob)), (aR, ia E 24 (nA Rv)), (aL, ia E 48 (nA (updN (updN Lo (rk (hasP Nw (Nw 96)) k) (lwn (hasP Nw i k) (Lo (rk (hasP Nw (Nw 96)) k)) (Nw (4 * i + 2 + 0)))) (24 + (rk (hasP Nw (Nw 96)) k)) (lwn (hasP Nw i k) ((updN Lo (rk (hasP Nw (Nw 96)) k) (lwn (hasP Nw i k) (Lo (rk (hasP Nw (Nw 96)) k)) (Nw (4 * i + 2 + 0)))) (24 + (rk (hasP Nw (Nw 96)) k))) (Nw (4 * i + 2 + 1)))))), (aG, ia E 48 (nA (updN Hi (rk (hasP Nw (Nw 96)) k) (hwn (hasP Nw i k) (Hi (rk (hasP Nw (Nw 96)) k)) (Nw (4 * i + 2 + 0)))))), (h0, ob 6 [.ref aN, .ref aH, .int (nI ed), .int (nI (rk (hasP Nw (Nw 96)) k)), .ref aO, .ref aR, .ref aL, .ref aG, .ref aT, .ref aE, .ref aB, .ref aV]), (aN, ia E 97 (nA Nw))] H locs → W p l e rmX6_finds s m args below meth c H locs 0 0 Q (F0 m 149 ls [.int (nI (hwn (hasP Nw i k) ((updN Hi (rk (hasP Nw (Nw 96)) k) (hwn (hasP Nw i k) (Hi (rk (hasP Nw (Nw 96)) k)) (Nw (4 * i + 2 + 0)))) (24 + (rk (hasP Nw (Nw 96)) k))) (Nw (4 * i + 2 + 1)))), .int (nI (24 + (rk (hasP Nw (Nw 96)) k))), .ref aG]) := by
                        intro H locs hw
                        refine z_astN cx hw 3 rfl (24 + (rk (hasP Nw (Nw 96)) k)) rfl (by omega) (by decide) dX6_finds_149 (fun H locs hw => ?_)
                        have hw : ZW E A s [(aO, ia E 24 (nA Ob)), (aR, ia E 24 (nA Rv)), (aL, ia E 48 (nA (updN (updN Lo (rk (hasP Nw (Nw 96)) k) (lwn (hasP Nw i k) (Lo (rk (hasP Nw (Nw 96)) k)) (Nw (4 * i + 2 + 0)))) (24 + (rk (hasP Nw (Nw 96)) k)) (lwn (hasP Nw i k) ((updN Lo (rk (hasP Nw (Nw 96)) k) (lwn (hasP Nw i k) (Lo (rk (hasP Nw (Nw 96)) k)) (Nw (4 * i + 2 + 0)))) (24 + (rk (hasP Nw (Nw 96)) k))) (Nw (4 * i + 2 + 1)))))), (aG, ia E 48 (nA (updN (updN Hi (rk (hasP Nw (Nw 96)) k) (hwn (hasP Nw i k) (Hi (rk (hasP Nw (Nw 96)) k)) (Nw (4 * i + 2 + 0)))) (24 + (rk (hasP Nw (Nw 96)) k)) (hwn (hasP Nw i k) ((updN Hi (rk (hasP Nw (Nw 96)) k) (hwn (hasP Nw i k) (Hi (rk (hasP Nw (Nw 96)) k)) (Nw (4 * i + 2 + 0)))) (24 + (rk (hasP Nw (Nw 96)) k))) (Nw (4 * i + 2 + 1)))))), (h0, ob 6 [.ref aN, .ref aH, .int (nI ed), .int (nI (rk (hasP Nw (Nw 96)) k)), .ref aO, .ref aR, .ref aL, .ref aG, .ref aT, .ref aE, .ref aB, .ref aV]), (aN, ia E 97 (nA Nw))] H locs := hw
                        refine lv_iinc (v := nI 2) (lv' := [(4, .int (nI 2)), (6, .int (nI (24 + (rk (hasP Nw (Nw 96)) k)))), (5, .int (nI (Nw (4 * i + 2 + 1)))), (0, .ref h0), (1, .int (nI k)), (2, .int (bI (hasP Nw i k))), (3, .int (nI i))]) hx hb dX6_finds_150 hl (k := 2) rfl (nI_1 _) (by decide) rfl (fun ls hl => ?_)
                        refine lv_goto (tgt := 47) hx hb dX6_finds_153 (by decide) ?_
                        refine lv_iload hx hb dX6_finds_47 (lv_at hl 0 rfl) ?_
                        refine lv_iconst (v := nI 2) hx hb dX6_finds_49 (by decide) ?_
                        refine z_icmp_ge hx hb (by decide) (by decide) 156 dX6_finds_50 (by decide) (fun _ => ?_) (fun c => absurd c (by decide))
                        refine lv_iconst (v := nI 1) hx hb dX6_finds_156 (by decide) ?_
                        refine lv_istore_n (lv' := [(2, .int (nI 1)), (4, .int (nI 2)), (6, .int (nI (24 + (rk (hasP Nw (Nw 96)) k)))), (5, .int (nI (Nw (4 * i + 2 + 1)))), (0, .ref h0), (1, .int (nI k)), (3, .int (nI i))]) hx hb dX6_finds_157 rfl hl (by decide) rfl (fun ls hl => ?_)
                        refine lv_iinc (v := nI (i + 1)) (lv' := [(3, .int (nI (i + 1))), (2, .int (nI 1)), (4, .int (nI 2)), (6, .int (nI (24 + (rk (hasP Nw (Nw 96)) k)))), (5, .int (nI (Nw (4 * i + 2 + 1)))), (0, .ref h0), (1, .int (nI k))]) hx hb dX6_finds_158 hl (k := 6) rfl (nI_1 _) (by decide) rfl (fun ls hl => ?_)
                        refine lv_goto (tgt := 17) hx hb dX6_finds_161 (by decide) ?_
                        have hp_ : pr Nw i = k := by simpa using c_41
                        have e_b17_0 : (updN (updN Lo (rk (hasP Nw (Nw 96)) k) (lwn (hasP Nw i k) (Lo (rk (hasP Nw (Nw 96)) k)) (Nw (4 * i + 2 + 0)))) (24 + (rk (hasP Nw (Nw 96)) k)) (lwn (hasP Nw i k) ((updN Lo (rk (hasP Nw (Nw 96)) k) (lwn (hasP Nw i k) (Lo (rk (hasP Nw (Nw 96)) k)) (Nw (4 * i + 2 + 0)))) (24 + (rk (hasP Nw (Nw 96)) k))) (Nw (4 * i + 2 + 1)))) = (updN (updN Lo (rk (hasP Nw (Nw 96)) k) (lwn (hasP Nw i k) (Lo (rk (hasP Nw (Nw 96)) k)) (Nw (4 * i + 2 + 0)))) (24 + rk (hasP Nw (Nw 96)) k) (lwn (hasP Nw i k) ((updN Lo (rk (hasP Nw (Nw 96)) k) (lwn (hasP Nw i k) (Lo (rk (hasP Nw (Nw 96)) k)) (Nw (4 * i + 2 + 0)))) (24 + rk (hasP Nw (Nw 96)) k)) (Nw (4 * i + 2 + 1)))) := by rfl
                        have e_b17_1 : (updN (updN Hi (rk (hasP Nw (Nw 96)) k) (hwn (hasP Nw i k) (Hi (rk (hasP Nw (Nw 96)) k)) (Nw (4 * i + 2 + 0)))) (24 + (rk (hasP Nw (Nw 96)) k)) (hwn (hasP Nw i k) ((updN Hi (rk (hasP Nw (Nw 96)) k) (hwn (hasP Nw i k) (Hi (rk (hasP Nw (Nw 96)) k)) (Nw (4 * i + 2 + 0)))) (24 + (rk (hasP Nw (Nw 96)) k))) (Nw (4 * i + 2 + 1)))) = (updN (updN Hi (rk (hasP Nw (Nw 96)) k) (hwn (hasP Nw i k) (Hi (rk (hasP Nw (Nw 96)) k)) (Nw (4 * i + 2 + 0)))) (24 + rk (hasP Nw (Nw 96)) k) (hwn (hasP Nw i k) ((updN Hi (rk (hasP Nw (Nw 96)) k) (hwn (hasP Nw i k) (Hi (rk (hasP Nw (Nw 96)) k)) (Nw (4 * i + 2 + 0)))) (24 + rk (hasP Nw (Nw 96)) k)) (Nw (4 * i + 2 + 1)))) := by rfl
                        exact ih_17 (i + 1) (updN (updN Lo (rk (hasP Nw (Nw 96)) k) (lwn (hasP Nw i k) (Lo (rk (hasP Nw (Nw 96)) k)) (Nw (4 * i + 2 + 0)))) (24 + rk (hasP Nw (Nw 96)) k) (lwn (hasP Nw i k) ((updN Lo (rk (hasP Nw (Nw 96)) k) (lwn (hasP Nw i k) (Lo (rk (hasP Nw (Nw 96)) k)) (Nw (4 * i + 2 + 0)))) (24 + rk (hasP Nw (Nw 96)) k)) (Nw (4 * i + 2 + 1)))) (updN (updN Hi (rk (hasP Nw (Nw 96)) k) (hwn (hasP Nw i k) (Hi (rk (hasP Nw (Nw 96)) k)) (Nw (4 * i + 2 + 0)))) (24 + rk (hasP Nw (Nw 96)) k) (hwn (hasP Nw i k) ((updN Hi (rk (hasP Nw (Nw 96)) k) (hwn (hasP Nw i k) (Hi (rk (hasP Nw (Nw 96)) k)) (Nw (4 * i + 2 + 0)))) (24 + rk (hasP Nw (Nw 96)) k)) (Nw (4 * i + 2 + 1)))) (by omega) (hI.keep (by omega) _ _ _ _) (hJ.step hp_ (hW i 0 (by omega) (by decide)) (hW i 1 (by omega) (by decide))) (bd_lwn hBl (by have := hW i 0 (by omega) (by decide); omega) (by have := hW i 1 (by omega) (by decide); omega)) (bd_hwn hBh (by have := hW i 0 (by omega) (by decide); omega) (by have := hW i 1 (by omega) (by decide); omega)) (by omega) _ _ ls ((hw.perm [4, 5, 0, 1, 2, 3] rfl (by decide)).cast (zc rfl (zc rfl (zc rfl (zc rfl (zc (congrArg (fun z => ((aL, ia E 48 (nA z)) : Nat × va_E)) e_b17_0) (zc (congrArg (fun z => ((aG, ia E 48 (nA z)) : Nat × va_E)) e_b17_1) rfl))))))) (lv_add (lv_add (lv_add (lv_add (lv_nil hl) (lv_at hl 0 rfl)) (lv_eqv (lv_at hl 1 rfl) (zNB1 (by simp [hasP, c_41])))) (lv_at hl 6 rfl)) (lv_at hl 5 rfl))
                      refine z_ifb_eq hx hb 137 dX6_finds_122 (by decide) (fun c_122 => ?_) (fun c_122 => ?_)
                      · refine lv_iload hx hb dX6_finds_137 (lv_at hl 1 rfl) ?_
                        refine lv_goto (tgt := 149) hx hb dX6_finds_139 (by decide) ?_
                        exact zSt (zN (by exact hwn_f c_122)) (j_149 _ _ (hw))
                      · refine lv_iload hx hb dX6_finds_125 (lv_at hl 1 rfl) ?_
                        refine lv_aload_n hx hb dX6_finds_127 rfl (lv_at hl 3 rfl) ?_
                        refine z_get cx hw 4 7 rfl rfl inlX6 (by decide) wd_75 rfl dX6_finds_128 ?_
                        refine lv_iload hx hb dX6_finds_131 (lv_at hl 0 rfl) ?_
                        refine z_aldN cx hw 3 rfl (24 + (rk (hasP Nw (Nw 96)) k)) rfl (by omega) (by decide) dX6_finds_133 ?_
                        have bb_ : (updN Hi (rk (hasP Nw (Nw 96)) k) (hwn (hasP Nw i k) (Hi (rk (hasP Nw (Nw 96)) k)) (Nw (4 * i + 2 + 0)))) (24 + (rk (hasP Nw (Nw 96)) k)) < 10 := by rw [updN_ne _ _ (by omega)]; exact hBh _
                        refine z_icmp_le hx hb (by omega) (by omega) 142 dX6_finds_134 (by decide) (fun c_134 => ?_) (fun c_134 => ?_)
                        · refine lv_aload_n hx hb dX6_finds_142 rfl (lv_at hl 3 rfl) ?_
                          refine z_get cx hw 4 7 rfl rfl inlX6 (by decide) wd_75 rfl dX6_finds_143 ?_
                          refine lv_iload hx hb dX6_finds_146 (lv_at hl 0 rfl) ?_
                          refine z_aldN cx hw 3 rfl (24 + (rk (hasP Nw (Nw 96)) k)) rfl (by omega) (by decide) dX6_finds_148 ?_
                          exact zSt (zN (by exact hwn_le c_122 c_134)) (j_149 _ _ (hw))
                        · refine lv_iload hx hb dX6_finds_137 (lv_at hl 1 rfl) ?_
                          refine lv_goto (tgt := 149) hx hb dX6_finds_139 (by decide) ?_
                          exact zSt (zN (by exact hwn_gt c_122 c_134)) (j_149 _ _ (hw))
                    refine z_ifb_eq hx hb 102 dX6_finds_87 (by decide) (fun c_87 => ?_) (fun c_87 => ?_)
                    · refine lv_iload hx hb dX6_finds_102 (lv_at hl 1 rfl) ?_
                      refine lv_goto (tgt := 114) hx hb dX6_finds_104 (by decide) ?_
                      exact zSt (zN (by exact lwn_f c_87)) (j_114 _ _ (hw))
                    · refine lv_iload hx hb dX6_finds_90 (lv_at hl 1 rfl) ?_
                      refine lv_aload_n hx hb dX6_finds_92 rfl (lv_at hl 3 rfl) ?_
                      refine z_get cx hw 4 6 rfl rfl inlX6 (by decide) wd_74 rfl dX6_finds_93 ?_
                      refine lv_iload hx hb dX6_finds_96 (lv_at hl 0 rfl) ?_
                      refine z_aldN cx hw 2 rfl (24 + (rk (hasP Nw (Nw 96)) k)) rfl (by omega) (by decide) dX6_finds_98 ?_
                      have bb_ : (updN Lo (rk (hasP Nw (Nw 96)) k) (lwn (hasP Nw i k) (Lo (rk (hasP Nw (Nw 96)) k)) (Nw (4 * i + 2 + 0)))) (24 + (rk (hasP Nw (Nw 96)) k)) < 10 := by rw [updN_ne _ _ (by omega)]; exact hBl _
                      refine z_icmp_ge hx hb (by omega) (by omega) 107 dX6_finds_99 (by decide) (fun c_99 => ?_) (fun c_99 => ?_)
                      · refine lv_aload_n hx hb dX6_finds_107 rfl (lv_at hl 3 rfl) ?_
                        refine z_get cx hw 4 6 rfl rfl inlX6 (by decide) wd_74 rfl dX6_finds_108 ?_
                        refine lv_iload hx hb dX6_finds_111 (lv_at hl 0 rfl) ?_
                        refine z_aldN cx hw 2 rfl (24 + (rk (hasP Nw (Nw 96)) k)) rfl (by omega) (by decide) dX6_finds_113 ?_
                        exact zSt (zN (by exact lwn_ge c_87 c_99)) (j_114 _ _ (hw))
                      · refine lv_iload hx hb dX6_finds_102 (lv_at hl 1 rfl) ?_
                        refine lv_goto (tgt := 114) hx hb dX6_finds_104 (by decide) ?_
                        exact zSt (zN (by exact lwn_lt c_87 c_99)) (j_114 _ _ (hw))
                  refine z_ifb_eq hx hb 137 dX6_finds_122 (by decide) (fun c_122 => ?_) (fun c_122 => ?_)
                  · refine lv_iload hx hb dX6_finds_137 (lv_at hl 1 rfl) ?_
                    refine lv_goto (tgt := 149) hx hb dX6_finds_139 (by decide) ?_
                    exact zSt (zN (by exact hwn_f c_122)) (j_149 _ _ (hw))
                  · refine lv_iload hx hb dX6_finds_125 (lv_at hl 1 rfl) ?_
                    refine lv_aload_n hx hb dX6_finds_127 rfl (lv_at hl 3 rfl) ?_
                    refine z_get cx hw 4 7 rfl rfl inlX6 (by decide) wd_75 rfl dX6_finds_128 ?_
                    refine lv_iload hx hb dX6_finds_131 (lv_at hl 0 rfl) ?_
                    refine z_aldN cx hw 3 rfl (rk (hasP Nw (Nw 96)) k) rfl (by omega) (by decide) dX6_finds_133 ?_
                    have bb_ := hBh (rk (hasP Nw (Nw 96)) k)
                    refine z_icmp_le hx hb (by omega) (by omega) 142 dX6_finds_134 (by decide) (fun c_134 => ?_) (fun c_134 => ?_)
                    · refine lv_aload_n hx hb dX6_finds_142 rfl (lv_at hl 3 rfl) ?_
                      refine z_get cx hw 4 7 rfl rfl inlX6 (by decide) wd_75 rfl dX6_finds_143 ?_
                      refine lv_iload hx hb dX6_finds_146 (lv_at hl 0 rfl) ?_
                      refine z_aldN cx hw 3 rfl (rk (hasP Nw (Nw 96)) k) rfl (by omega) (by decide) dX6_finds_148 ?_
                      exact zSt (zN (by exact hwn_le c_122 c_134)) (j_149 _ _ (hw))
                    · refine lv_iload hx hb dX6_finds_137 (lv_at hl 1 rfl) ?_
                      refine lv_goto (tgt := 149) hx hb dX6_finds_139 (by decide) ?_
                      exact zSt (zN (by exact hwn_gt c_122 c_134)) (j_149 _ _ (hw))
                refine z_ifb_eq hx hb 102 dX6_finds_87 (by decide) (fun c_87 => ?_) (fun c_87 => ?_)
                · refine lv_iload hx hb dX6_finds_102 (lv_at hl 1 rfl) ?_
                  refine lv_goto (tgt := 114) hx hb dX6_finds_104 (by decide) ?_
                  exact zSt (zN (by exact lwn_f c_87)) (j_114 _ _ (hw))
                · refine lv_iload hx hb dX6_finds_90 (lv_at hl 1 rfl) ?_
                  refine lv_aload_n hx hb dX6_finds_92 rfl (lv_at hl 3 rfl) ?_
                  refine z_get cx hw 4 6 rfl rfl inlX6 (by decide) wd_74 rfl dX6_finds_93 ?_
                  refine lv_iload hx hb dX6_finds_96 (lv_at hl 0 rfl) ?_
                  refine z_aldN cx hw 2 rfl (rk (hasP Nw (Nw 96)) k) rfl (by omega) (by decide) dX6_finds_98 ?_
                  have bb_ := hBl (rk (hasP Nw (Nw 96)) k)
                  refine z_icmp_ge hx hb (by omega) (by omega) 107 dX6_finds_99 (by decide) (fun c_99 => ?_) (fun c_99 => ?_)
                  · refine lv_aload_n hx hb dX6_finds_107 rfl (lv_at hl 3 rfl) ?_
                    refine z_get cx hw 4 6 rfl rfl inlX6 (by decide) wd_74 rfl dX6_finds_108 ?_
                    refine lv_iload hx hb dX6_finds_111 (lv_at hl 0 rfl) ?_
                    refine z_aldN cx hw 2 rfl (rk (hasP Nw (Nw 96)) k) rfl (by omega) (by decide) dX6_finds_113 ?_
                    exact zSt (zN (by exact lwn_ge c_87 c_99)) (j_114 _ _ (hw))
                  · refine lv_iload hx hb dX6_finds_102 (lv_at hl 1 rfl) ?_
                    refine lv_goto (tgt := 114) hx hb dX6_finds_104 (by decide) ?_
                    exact zSt (zN (by exact lwn_lt c_87 c_99)) (j_114 _ _ (hw))
        exact loop_17 _ 0 Lo Hi (by omega) (hI) (fun q => by simp [hasP] at q) (hBl) (hBh) (Nat.lt_succ_self _) _ _ ls (hw) (lv_add (lv_add (lv_add (lv_add (lv_nil hl) (lv_at hl 0 rfl)) (lv_eqv (lv_at hl 1 rfl) (zNB0 (by rfl)))) (lv_at hl 3 rfl)) (lv_at hl 2 rfl))
  have e_i7_0 : 0 = (rk (hasP Nw (Nw 96)) 0) := by rfl
  exact loop_7 _ 0 Ob Rv Lo Hi (by omega) (fun j hj => absurd hj (Nat.not_lt_zero _)) (hB.1) (hB.2.1) (hB.2.2.1) (hB.2.2.2) (Nat.lt_succ_self _) _ _ ls ((hw).cast (zc (congrArg (fun z => ((h0, ob 6 [.ref aN, .ref aH, .int (nI ed), .int (nI z), .ref aO, .ref aR, .ref aL, .ref aG, .ref aT, .ref aE, .ref aB, .ref aV]) : Nat × va_E)) e_i7_0) rfl)) (lv_add (lv_add (lv_nil hl) (lv_at hl 0 rfl)) (lv_at hl 1 rfl))

def rmX6_coupleCount : Room := { frames := 2, cells := 0, slots := 0, locals := 49 }
set_option maxHeartbeats 4000000 in
set_option maxRecDepth 100000 in
theorem c_X6_coupleCount (l : Launch) (E : ZE) (h0 aN aH aO aR aL aG aT aE aB aV : Nat) (ed mc : Nat) (Nw : Nat → Nat) (Ob Rv Lo Hi : Nat → Nat) (hn : Nw 96 ≤ 24) (hF : ∀ j, j < 96 → Nw j < 10) (hW : ∀ k sd, k < 24 → sd < 2 → Nw (4 * k + 2 + sd) ≤ 5) (hB : Bd Ob ∧ Bd Rv ∧ Bd Lo ∧ Bd Hi) : ZMi l yX6_coupleCount cX6_coupleCount 1 (some .int) rmX6_coupleCount E [.ref h0] [(h0, ob 6 [.ref aN, .ref aH, .int (nI ed), .int (nI mc), .ref aO, .ref aR, .ref aL, .ref aG, .ref aT, .ref aE, .ref aB, .ref aV]), (aN, ia E 97 (nA Nw)), (aO, ia E 24 (nA Ob)), (aR, ia E 24 (nA Rv)), (aL, ia E 48 (nA Lo)), (aG, ia E 48 (nA Hi))] (S := (Nat → Nat) × (Nat → Nat) × (Nat → Nat) × (Nat → Nat)) (fun r u => r = nI (rk (hasP Nw (Nw 96)) 100) ∧ FI Nw (Nw 96) 100 u.1 u.2.1 u.2.2.1 u.2.2.2 ∧ Bd u.1 ∧ Bd u.2.1 ∧ Bd u.2.2.1 ∧ Bd u.2.2.2) (fun u => [(h0, ob 6 [.ref aN, .ref aH, .int (nI ed), .int (nI (rk (hasP Nw (Nw 96)) 100)), .ref aO, .ref aR, .ref aL, .ref aG, .ref aT, .ref aE, .ref aB, .ref aV]), (aN, ia E 97 (nA Nw)), (aO, ia E 24 (nA u.1)), (aR, ia E 24 (nA u.2.1)), (aL, ia E 48 (nA u.2.2.1)), (aG, ia E 48 (nA u.2.2.2))]) := by
  refine z_mi (by decide) (Nat.le_of_ble_eq_true rfl) ?_
  intro p e s m args below meth c A Q ls cx hin hw hl ret
  obtain ⟨hx, hb, hml, hown, hts, hK, hN, hA, hlk⟩ := id cx
  have hl : lv_has ls 1 [(0, .ref h0)] := hl
  refine lv_aload_n hx hb dX6_coupleCount_0 rfl (lv_at hl 0 rfl) ?_
  refine z_rv0 (wr := []) cx hw [0, 1, 2, 3, 4, 5] [] rfl rfl (by decide) (by decide) rfl rfl (z_runV (As := []) (rest := []) cx hw rfl rfl [0, 1, 2, 3, 4, 5] rfl rfl (c_X6_finds l E h0 aN aH aO aR aL aG aT aE aB aV ed mc Nw Ob Rv Lo Hi (by omega) (hF) (hW) (hB) s.heap.size) mf_X6_finds wd_284 ⟨Nat.le_of_ble_eq_true rfl, Nat.le_of_ble_eq_true rfl⟩ hl (Nat.le_of_ble_eq_true rfl) dX6_coupleCount_1 ⟨Nat.le_of_ble_eq_true rfl, Nat.le_of_ble_eq_true rfl⟩) (fun u H locs hp hw => ?_)
  obtain ⟨Ob, Rv, Lo, Hi⟩ := u
  have hp_1 : FI Nw (Nw 96) 100 Ob Rv Lo Hi ∧ Bd Ob ∧ Bd Rv ∧ Bd Lo ∧ Bd Hi := hp
  have hw : ZW E A s [(h0, ob 6 [.ref aN, .ref aH, .int (nI ed), .int (nI (rk (hasP Nw (Nw 96)) 100)), .ref aO, .ref aR, .ref aL, .ref aG, .ref aT, .ref aE, .ref aB, .ref aV]), (aN, ia E 97 (nA Nw)), (aO, ia E 24 (nA Ob)), (aR, ia E 24 (nA Rv)), (aL, ia E 48 (nA Lo)), (aG, ia E 48 (nA Hi))] H locs := hw
  refine lv_aload_n hx hb dX6_coupleCount_4 rfl (lv_at hl 0 rfl) ?_
  refine z_get cx hw 0 3 rfl rfl inlX6 (by decide) wd_283 rfl dX6_coupleCount_5 ?_
  exact ret (nI (rk (hasP Nw (Nw 96)) 100)) (Ob, Rv, Lo, Hi) 8 ls H locs dX6_coupleCount_8 (⟨rfl, hp_1⟩) (hw)

def rmX6_coupleAt : Room := { frames := 2, cells := 0, slots := 0, locals := 49 }
set_option maxHeartbeats 4000000 in
set_option maxRecDepth 100000 in
theorem c_X6_coupleAt (l : Launch) (E : ZE) (h0 aN aH aO aR aL aG aT aE aB aV : Nat) (ed mc : Nat) (Nw : Nat → Nat) (Ob Rv Lo Hi : Nat → Nat) (x : Int32) (hn : Nw 96 ≤ 24) (hF : ∀ j, j < 96 → Nw j < 10) (hW : ∀ k sd, k < 24 → sd < 2 → Nw (4 * k + 2 + sd) ≤ 5) (hB : Bd Ob ∧ Bd Rv ∧ Bd Lo ∧ Bd Hi) : ZMi l yX6_coupleAt cX6_coupleAt 2 (some .int) rmX6_coupleAt E [.ref h0, .int x] [(h0, ob 6 [.ref aN, .ref aH, .int (nI ed), .int (nI mc), .ref aO, .ref aR, .ref aL, .ref aG, .ref aT, .ref aE, .ref aB, .ref aV]), (aN, ia E 97 (nA Nw)), (aO, ia E 24 (nA Ob)), (aR, ia E 24 (nA Rv)), (aL, ia E 48 (nA Lo)), (aG, ia E 48 (nA Hi))] (S := (Nat → Nat) × (Nat → Nat) × (Nat → Nat) × (Nat → Nat) × Nat) (fun r u => (x < 0 ∧ r = -1 ∨ 0 ≤ x ∧ FI Nw (Nw 96) 100 u.1 u.2.1 u.2.2.1 u.2.2.2.1 ∧ r = catR x (rk (hasP Nw (Nw 96)) 100) u.1 u.2.1) ∧ Bd u.1 ∧ Bd u.2.1 ∧ Bd u.2.2.1 ∧ Bd u.2.2.2.1) (fun u => [(h0, ob 6 [.ref aN, .ref aH, .int (nI ed), .int (nI u.2.2.2.2), .ref aO, .ref aR, .ref aL, .ref aG, .ref aT, .ref aE, .ref aB, .ref aV]), (aN, ia E 97 (nA Nw)), (aO, ia E 24 (nA u.1)), (aR, ia E 24 (nA u.2.1)), (aL, ia E 48 (nA u.2.2.1)), (aG, ia E 48 (nA u.2.2.2.1))]) := by
  refine z_mi (by decide) (Nat.le_of_ble_eq_true rfl) ?_
  intro p e s m args below meth c A Q ls cx hin hw hl ret
  obtain ⟨hx, hb, hml, hown, hts, hK, hN, hA, hlk⟩ := id cx
  have hl : lv_has ls 2 [(0, .ref h0), (1, .int x)] := hl
  refine lv_iload_n hx hb dX6_coupleAt_0 rfl (lv_at hl 1 rfl) ?_
  refine lv_if_ge (tgt := 6) hx hb dX6_coupleAt_1 (by decide) (fun c_1 => ?_) (fun c_1 => ?_)
  · refine lv_aload_n hx hb dX6_coupleAt_6 rfl (lv_at hl 0 rfl) ?_
    refine z_rv0 (wr := []) cx hw [0, 1, 2, 3, 4, 5] [] rfl rfl (by decide) (by decide) rfl rfl (z_runV (As := []) (rest := []) cx hw rfl rfl [0, 1, 2, 3, 4, 5] rfl rfl (c_X6_finds l E h0 aN aH aO aR aL aG aT aE aB aV ed mc Nw Ob Rv Lo Hi (by omega) (hF) (hW) (hB) s.heap.size) mf_X6_finds wd_284 ⟨Nat.le_of_ble_eq_true rfl, Nat.le_of_ble_eq_true rfl⟩ hl (Nat.le_of_ble_eq_true rfl) dX6_coupleAt_7 ⟨Nat.le_of_ble_eq_true rfl, Nat.le_of_ble_eq_true rfl⟩) (fun u H locs hp hw => ?_)
    obtain ⟨Ob, Rv, Lo, Hi⟩ := u
    have hp_7 : FI Nw (Nw 96) 100 Ob Rv Lo Hi ∧ Bd Ob ∧ Bd Rv ∧ Bd Lo ∧ Bd Hi := hp
    have hw : ZW E A s [(h0, ob 6 [.ref aN, .ref aH, .int (nI ed), .int (nI (rk (hasP Nw (Nw 96)) 100)), .ref aO, .ref aR, .ref aL, .ref aG, .ref aT, .ref aE, .ref aB, .ref aV]), (aN, ia E 97 (nA Nw)), (aO, ia E 24 (nA Ob)), (aR, ia E 24 (nA Rv)), (aL, ia E 48 (nA Lo)), (aG, ia E 48 (nA Hi))] H locs := hw
    have hmm_ := rk_hasP Nw (Nw 96) 100
    refine lv_iload_n hx hb dX6_coupleAt_10 rfl (lv_at hl 1 rfl) ?_
    refine lv_aload_n hx hb dX6_coupleAt_11 rfl (lv_at hl 0 rfl) ?_
    refine z_get cx hw 0 3 rfl rfl inlX6 (by decide) wd_283 rfl dX6_coupleAt_12 ?_
    refine lv_icmp_ge (tgt := 37) hx hb dX6_coupleAt_15 (by decide) (fun c_15 => ?_) (fun c_15 => ?_)
    · refine lv_bipush (v := (-3)) hx hb dX6_coupleAt_37 (by decide) ?_
      have hE_ : inR x (rk (hasP Nw (Nw 96)) 100) = false := inR_ge (by omega) c_15
      exact ret ((-3)) (Ob, Rv, Lo, Hi, rk (hasP Nw (Nw 96)) 100) 39 ls H locs dX6_coupleAt_39 (⟨Or.inr ⟨c_1, hp_7.1, by simp only [catR, hE_]; rw [if_neg (by decide), if_neg (Int32.not_lt.mpr c_1)]⟩, hp_7.2⟩) (hw)
    · have hI_ : inR x (rk (hasP Nw (Nw 96)) 100) = true := inR_in (by omega) (Int32.not_lt.mpr c_1) (c_15)
      obtain ⟨k, hk, rfl⟩ := inR_get hI_ (by omega)
      refine lv_bipush (v := nI 10) hx hb dX6_coupleAt_18 (by decide) ?_
      refine lv_aload_n hx hb dX6_coupleAt_20 rfl (lv_at hl 0 rfl) ?_
      refine z_get cx hw 0 4 rfl rfl inlX6 (by decide) wd_72 rfl dX6_coupleAt_21 ?_
      refine lv_iload_n hx hb dX6_coupleAt_24 rfl (lv_at hl 1 rfl) ?_
      refine z_aldN cx hw 2 rfl (k) rfl (by omega) (by decide) dX6_coupleAt_25 ?_
      refine z_imul hx hb (10 * (Ob k)) rfl dX6_coupleAt_26 ?_
      refine lv_aload_n hx hb dX6_coupleAt_27 rfl (lv_at hl 0 rfl) ?_
      refine z_get cx hw 0 5 rfl rfl inlX6 (by decide) wd_73 rfl dX6_coupleAt_28 ?_
      refine lv_iload_n hx hb dX6_coupleAt_31 rfl (lv_at hl 1 rfl) ?_
      refine z_aldN cx hw 3 rfl (k) rfl (by omega) (by decide) dX6_coupleAt_32 ?_
      refine z_iadd hx hb ((10 * (Ob k)) + (Rv k)) rfl dX6_coupleAt_33 ?_
      refine lv_goto (tgt := 39) hx hb dX6_coupleAt_34 (by decide) ?_
      exact ret (nI ((10 * (Ob k)) + (Rv k))) (Ob, Rv, Lo, Hi, rk (hasP Nw (Nw 96)) 100) 39 ls H locs dX6_coupleAt_39 (⟨Or.inr ⟨c_1, hp_7.1, by rw [catR, if_pos hI_, cl_nI hk (by omega)]⟩, hp_7.2⟩) (hw)
  · refine lv_iconst (v := (-1)) hx hb dX6_coupleAt_4 (by decide) ?_
    exact ret ((-1)) (Ob, Rv, Lo, Hi, mc) 5 ls s.heap [] dX6_coupleAt_5 (⟨Or.inl ⟨Int32.not_le.mp c_1, rfl⟩, hB⟩) (hw)

def rmX6_nets : Room := { frames := 1, cells := 0, slots := 0, locals := 24 }
set_option maxHeartbeats 4000000 in
set_option maxRecDepth 100000 in
theorem c_X6_nets (l : Launch) (E : ZE) (h0 aN aH aO aR aL aG aT aE aB aV : Nat) (ed mc : Nat) (Nw : Nat → Nat) (Ob Rv Lo Hi : Nat → Nat) (Nt : Nat → Nat) (wo : Int32) (hn : Nw 96 ≤ 24) (hF : ∀ j, j < 96 → Nw j < 10) (hmm : mc ≤ 24) (hB : Bd Ob ∧ Bd Rv ∧ Bd Lo ∧ Bd Hi) : ZMi l yX6_nets cX6_nets 6 (some .int) rmX6_nets E [.ref h0, .int wo] [(h0, ob 6 [.ref aN, .ref aH, .int (nI ed), .int (nI mc), .ref aO, .ref aR, .ref aL, .ref aG, .ref aT, .ref aE, .ref aB, .ref aV]), (aN, ia E 97 (nA Nw)), (aO, ia E 24 (nA Ob)), (aR, ia E 24 (nA Rv)), (aL, ia E 48 (nA Lo)), (aG, ia E 48 (nA Hi)), (aV, ia E 20 (nA Nt))] (S := Unit) (fun r _ => r = nI (nc (mn Ob Rv wo mc) (kd Nw) 20)) (fun _ => [(h0, ob 6 [.ref aN, .ref aH, .int (nI ed), .int (nI mc), .ref aO, .ref aR, .ref aL, .ref aG, .ref aT, .ref aE, .ref aB, .ref aV]), (aN, ia E 97 (nA Nw)), (aO, ia E 24 (nA Ob)), (aR, ia E 24 (nA Rv)), (aL, ia E 48 (nA Lo)), (aG, ia E 48 (nA Hi)), (aV, ia E 20 (nA (mn Ob Rv wo mc)))]) := by
  refine z_mi (by decide) (Nat.le_of_ble_eq_true rfl) ?_
  intro p e s m args below meth c A Q ls cx hin hw hl ret
  obtain ⟨hx, hb, hml, hown, hts, hK, hN, hA, hlk⟩ := id cx
  have hl : lv_has ls 6 [(0, .ref h0), (1, .int wo)] := hl
  refine lv_iconst (v := nI 0) hx hb dX6_nets_0 (by decide) ?_
  refine lv_istore_n (lv' := [(2, .int (nI 0)), (0, .ref h0), (1, .int wo)]) hx hb dX6_nets_1 rfl hl (by decide) rfl (fun ls hl => ?_)
  have loop_2 : ∀ (fuel : Nat) (v0 : Nat) (hv0 : v0 ≤ 20) (hm : 20 - v0 < fuel) (H : Heap) (locs : List Loc) (ls : Array Slot), ZW E A s [(h0, ob 6 [.ref aN, .ref aH, .int (nI ed), .int (nI mc), .ref aO, .ref aR, .ref aL, .ref aG, .ref aT, .ref aE, .ref aB, .ref aV]), (aN, ia E 97 (nA Nw)), (aO, ia E 24 (nA Ob)), (aR, ia E 24 (nA Rv)), (aL, ia E 48 (nA Lo)), (aG, ia E 48 (nA Hi)), (aV, ia E 20 (nA (idk Nt v0)))] H locs → lv_has ls 6 [(0, .ref h0), (1, .int wo), (2, .int (nI v0))] → W p l e rmX6_nets s m args below meth c H locs 0 0 Q (F0 m 2 ls []) := by
    intro fuel
    induction fuel with
    | zero => intro v0 hv0 hm; exact absurd hm (Nat.not_lt_zero _)
    | succ fuel ih_2 =>
      intro v0 hv0 hm H locs ls hw hl
      refine lv_iload_n hx hb dX6_nets_2 rfl (lv_at hl 2 rfl) ?_
      refine lv_bipush (v := nI 20) hx hb dX6_nets_3 (by decide) ?_
      refine z_icmp_ge hx hb (by omega) (by decide) 21 dX6_nets_5 (by decide) (fun c_5 => ?_) (fun c_5 => ?_)
      · have hw := hw.ext (g := nA (mn Ob Rv wo 0)) 6 rfl (fun j hj => by simp only [nA, idk, mn]; rw [if_pos (by omega)])
        have hw : ZW E A s [(h0, ob 6 [.ref aN, .ref aH, .int (nI ed), .int (nI mc), .ref aO, .ref aR, .ref aL, .ref aG, .ref aT, .ref aE, .ref aB, .ref aV]), (aN, ia E 97 (nA Nw)), (aO, ia E 24 (nA Ob)), (aR, ia E 24 (nA Rv)), (aL, ia E 48 (nA Lo)), (aG, ia E 48 (nA Hi)), (aV, ia E 20 (nA (mn Ob Rv wo 0)))] H locs := hw
        refine lv_iconst (v := nI 0) hx hb dX6_nets_21 (by decide) ?_
        refine lv_istore_n (lv' := [(2, .int (nI 0)), (0, .ref h0), (1, .int wo)]) hx hb dX6_nets_22 rfl hl (by decide) rfl (fun ls hl => ?_)
        have loop_23 : ∀ (fuel : Nat) (k : Nat) (hk : k ≤ mc) (hm : mc - k < fuel) (H : Heap) (locs : List Loc) (ls : Array Slot), ZW E A s [(h0, ob 6 [.ref aN, .ref aH, .int (nI ed), .int (nI mc), .ref aO, .ref aR, .ref aL, .ref aG, .ref aT, .ref aE, .ref aB, .ref aV]), (aN, ia E 97 (nA Nw)), (aO, ia E 24 (nA Ob)), (aR, ia E 24 (nA Rv)), (aL, ia E 48 (nA Lo)), (aG, ia E 48 (nA Hi)), (aV, ia E 20 (nA (mn Ob Rv wo k)))] H locs → lv_has ls 6 [(0, .ref h0), (1, .int wo), (2, .int (nI k))] → W p l e rmX6_nets s m args below meth c H locs 0 0 Q (F0 m 23 ls []) := by
          intro fuel
          induction fuel with
          | zero => intro k hk hm; exact absurd hm (Nat.not_lt_zero _)
          | succ fuel ih_23 =>
            intro k hk hm H locs ls hw hl
            refine lv_iload_n hx hb dX6_nets_23 rfl (lv_at hl 2 rfl) ?_
            refine lv_aload_n hx hb dX6_nets_24 rfl (lv_at hl 0 rfl) ?_
            refine z_get cx hw 0 3 rfl rfl inlX6 (by decide) wd_283 rfl dX6_nets_25 ?_
            refine z_icmp_ge hx hb (by omega) (by omega) 116 dX6_nets_28 (by decide) (fun c_28 => ?_) (fun c_28 => ?_)
            · have ek_ : k = mc := by omega
              have hw : ZW E A s [(h0, ob 6 [.ref aN, .ref aH, .int (nI ed), .int (nI mc), .ref aO, .ref aR, .ref aL, .ref aG, .ref aT, .ref aE, .ref aB, .ref aV]), (aN, ia E 97 (nA Nw)), (aO, ia E 24 (nA Ob)), (aR, ia E 24 (nA Rv)), (aL, ia E 48 (nA Lo)), (aG, ia E 48 (nA Hi)), (aV, ia E 20 (nA (mn Ob Rv wo mc)))] H locs := by rw [ek_] at hw; exact hw
              refine lv_iconst (v := nI 0) hx hb dX6_nets_116 (by decide) ?_
              refine lv_istore_n (lv' := [(2, .int (nI 0)), (0, .ref h0), (1, .int wo)]) hx hb dX6_nets_117 rfl hl (by decide) rfl (fun ls hl => ?_)
              refine lv_iconst (v := nI 0) hx hb dX6_nets_118 (by decide) ?_
              refine lv_istore_n (lv' := [(3, .int (nI 0)), (2, .int (nI 0)), (0, .ref h0), (1, .int wo)]) hx hb dX6_nets_119 rfl hl (by decide) rfl (fun ls hl => ?_)
              have loop_120 : ∀ (fuel : Nat) (v : Nat) (hv : v ≤ 20) (hm : 20 - v < fuel) (H : Heap) (locs : List Loc) (ls : Array Slot), ZW E A s [(h0, ob 6 [.ref aN, .ref aH, .int (nI ed), .int (nI mc), .ref aO, .ref aR, .ref aL, .ref aG, .ref aT, .ref aE, .ref aB, .ref aV]), (aN, ia E 97 (nA Nw)), (aO, ia E 24 (nA Ob)), (aR, ia E 24 (nA Rv)), (aL, ia E 48 (nA Lo)), (aG, ia E 48 (nA Hi)), (aV, ia E 20 (nA (mn Ob Rv wo mc)))] H locs → lv_has ls 6 [(0, .ref h0), (1, .int wo), (2, .int (nI (nc (mn Ob Rv wo mc) (kd Nw) v))), (3, .int (nI v))] → W p l e rmX6_nets s m args below meth c H locs 0 0 Q (F0 m 120 ls []) := by
                intro fuel
                induction fuel with
                | zero => intro v hv hm; exact absurd hm (Nat.not_lt_zero _)
                | succ fuel ih_120 =>
                  intro v hv hm H locs ls hw hl
                  refine lv_iload_n hx hb dX6_nets_120 rfl (lv_at hl 3 rfl) ?_
                  refine lv_bipush (v := nI 20) hx hb dX6_nets_121 (by decide) ?_
                  refine z_icmp_ge hx hb (by omega) (by decide) 210 dX6_nets_123 (by decide) (fun c_123 => ?_) (fun c_123 => ?_)
                  · refine lv_iload_n hx hb dX6_nets_210 rfl (lv_at hl 2 rfl) ?_
                    have ev_ : v = 20 := by omega
                    exact ret (nI (nc (mn Ob Rv wo mc) (kd Nw) v)) () 211 ls H locs dX6_nets_211 (congrArg nI (by rw [ev_])) (hw)
                  · refine lv_aload_n hx hb dX6_nets_126 rfl (lv_at hl 0 rfl) ?_
                    refine lv_iload_n hx hb dX6_nets_127 rfl (lv_at hl 3 rfl) ?_
                    refine lv_bipush (v := nI 10) hx hb dX6_nets_128 (by decide) ?_
                    refine z_idiv hx hb (v / 10) (by omega) (by omega) (by omega) rfl dX6_nets_130 ?_
                    refine lv_iload_n hx hb dX6_nets_131 rfl (lv_at hl 3 rfl) ?_
                    refine lv_bipush (v := nI 10) hx hb dX6_nets_132 (by decide) ?_
                    refine z_irem hx hb (v % 10) (by omega) (by omega) (by omega) rfl dX6_nets_134 ?_
                    refine z_ri0 (wr := [(aO, ia E 24 (nA Ob)), (aR, ia E 24 (nA Rv)), (aL, ia E 48 (nA Lo)), (aG, ia E 48 (nA Hi)), (aV, ia E 20 (nA (mn Ob Rv wo mc)))]) cx hw [0, 1] [2, 3, 4, 5, 6] rfl rfl (by decide) (by decide) rfl rfl (z_runV (As := [.int (nI (v / 10)), .int (nI (v % 10))]) (rest := []) cx hw rfl rfl [0, 1] rfl rfl (c_X6_specimens l E h0 aN aH aO aR aL aG aT aE aB aV ed mc Nw (v / 10) (v % 10) (by omega) (hF) (by omega) (by omega) H.size) mf_X6_specimens wd_174 ⟨Nat.le_of_ble_eq_true rfl, Nat.le_of_ble_eq_true rfl⟩ hl (Nat.le_of_ble_eq_true rfl) dX6_nets_135 ⟨Nat.le_of_ble_eq_true rfl, Nat.le_of_ble_eq_true rfl⟩) (fun r _ H locs hp hw => ?_)
                    have hr_135 := hp
                    have hr_135 : r = nI (cnt Nw (v / 10) (v % 10) (Nw 96)) := hr_135
                    subst hr_135
                    have hw : ZW E A s [(aO, ia E 24 (nA Ob)), (aR, ia E 24 (nA Rv)), (aL, ia E 48 (nA Lo)), (aG, ia E 48 (nA Hi)), (aV, ia E 20 (nA (mn Ob Rv wo mc))), (h0, ob 6 [.ref aN, .ref aH, .int (nI ed), .int (nI mc), .ref aO, .ref aR, .ref aL, .ref aG, .ref aT, .ref aE, .ref aB, .ref aV]), (aN, ia E 97 (nA Nw))] H locs := hw
                    have hc_ := cnt_le Nw (v / 10) (v % 10) (Nw 96)
                    have j_146 : ∀ (H : Heap) (locs : List Loc), ZW E A s [(aO, ia E 24 (nA Ob)), (aR, ia E 24 (nA Rv)), (aL, ia E 48 (nA Lo)), (aG, ia E 48 (nA Hi)), (aV, ia E 20 (nA (mn Ob Rv wo mc))), (h0, ob 6 [.ref aN, .ref aH, .int (nI ed), .int (nI mc), .ref aO, .ref aR, .ref aL, .ref aG, .ref aT, .ref aE, .ref aB, .ref aV]), (aN, ia E 97 (nA Nw))] H locs → W p l e rmX6_nets s m args below meth c H locs 0 0 Q (F0 m 146 ls [.int (bI (kd Nw v))]) := by
                      intro H locs hw
                      refine lv_istore (lv' := [(4, .int (bI (kd Nw v))), (0, .ref h0), (1, .int wo), (2, .int (nI (nc (mn Ob Rv wo mc) (kd Nw) v))), (3, .int (nI v))]) hx hb dX6_nets_146 hl (by decide) rfl (fun ls hl => ?_)
                      refine lv_iconst (v := nI 0) hx hb dX6_nets_148 (by decide) ?_
                      refine lv_istore (lv' := [(5, .int (nI 0)), (4, .int (bI (kd Nw v))), (0, .ref h0), (1, .int wo), (2, .int (nI (nc (mn Ob Rv wo mc) (kd Nw) v))), (3, .int (nI v))]) hx hb dX6_nets_149 hl (by decide) rfl (fun ls hl => ?_)
                      have loop_151 : ∀ (fuel : Nat) (u2 : Nat) (hu : u2 ≤ v) (hm : v - u2 < fuel) (H : Heap) (locs : List Loc) (ls : Array Slot), ZW E A s [(aO, ia E 24 (nA Ob)), (aR, ia E 24 (nA Rv)), (aL, ia E 48 (nA Lo)), (aG, ia E 48 (nA Hi)), (aV, ia E 20 (nA (mn Ob Rv wo mc))), (h0, ob 6 [.ref aN, .ref aH, .int (nI ed), .int (nI mc), .ref aO, .ref aR, .ref aL, .ref aG, .ref aT, .ref aE, .ref aB, .ref aV]), (aN, ia E 97 (nA Nw))] H locs → lv_has ls 6 [(0, .ref h0), (1, .int wo), (2, .int (nI (nc (mn Ob Rv wo mc) (kd Nw) v))), (3, .int (nI v)), (4, .int (bI (fs (mn Ob Rv wo mc) (kd Nw v) v u2))), (5, .int (nI u2))] → W p l e rmX6_nets s m args below meth c H locs 0 0 Q (F0 m 151 ls []) := by
                        intro fuel
                        induction fuel with
                        | zero => intro u2 hu hm; exact absurd hm (Nat.not_lt_zero _)
                        | succ fuel ih_151 =>
                          intro u2 hu hm H locs ls hw hl
                          refine lv_iload hx hb dX6_nets_151 (lv_at hl 5 rfl) ?_
                          refine lv_iload_n hx hb dX6_nets_153 rfl (lv_at hl 3 rfl) ?_
                          refine z_icmp_ge hx hb (by omega) (by omega) 191 dX6_nets_154 (by decide) (fun c_154 => ?_) (fun c_154 => ?_)
                          · refine lv_iload_n hx hb dX6_nets_191 rfl (lv_at hl 2 rfl) ?_
                            refine lv_iload hx hb dX6_nets_192 (lv_at hl 4 rfl) ?_
                            refine z_ifb_eq hx hb 201 dX6_nets_194 (by decide) (fun c_194 => ?_) (fun c_194 => ?_)
                            · refine lv_iconst (v := nI 0) hx hb dX6_nets_201 (by decide) ?_
                              refine z_iadd hx hb (nc (mn Ob Rv wo mc) (kd Nw) v) rfl dX6_nets_202 ?_
                              refine lv_istore_n (lv' := [(2, .int (nI (nc (mn Ob Rv wo mc) (kd Nw) v))), (0, .ref h0), (1, .int wo), (3, .int (nI v)), (4, .int (bI (fs (mn Ob Rv wo mc) (kd Nw v) v u2))), (5, .int (nI u2))]) hx hb dX6_nets_203 rfl hl (by decide) rfl (fun ls hl => ?_)
                              refine lv_iinc (v := nI (v + 1)) (lv' := [(3, .int (nI (v + 1))), (2, .int (nI (nc (mn Ob Rv wo mc) (kd Nw) v))), (0, .ref h0), (1, .int wo), (4, .int (bI (fs (mn Ob Rv wo mc) (kd Nw v) v u2))), (5, .int (nI u2))]) hx hb dX6_nets_204 hl (k := 3) rfl (nI_1 _) (by decide) rfl (fun ls hl => ?_)
                              refine lv_goto (tgt := 120) hx hb dX6_nets_207 (by decide) ?_
                              have eu_ : u2 = v := by omega
                              rw [eu_] at c_194
                              exact ih_120 (v + 1) (by omega) (by omega) _ _ ls (hw.perm [5, 6, 0, 1, 2, 3, 4] rfl (by decide)) (lv_add (lv_add (lv_add (lv_add (lv_nil hl) (lv_at hl 0 rfl)) (lv_eqv (lv_at hl 1 rfl) (zN (by simp [nc, c_194])))) (lv_at hl 3 rfl)) (lv_at hl 2 rfl))
                            · refine lv_iconst (v := nI 1) hx hb dX6_nets_197 (by decide) ?_
                              refine lv_goto (tgt := 202) hx hb dX6_nets_198 (by decide) ?_
                              refine z_iadd hx hb ((nc (mn Ob Rv wo mc) (kd Nw) v) + 1) rfl dX6_nets_202 ?_
                              refine lv_istore_n (lv' := [(2, .int (nI ((nc (mn Ob Rv wo mc) (kd Nw) v) + 1))), (0, .ref h0), (1, .int wo), (3, .int (nI v)), (4, .int (bI (fs (mn Ob Rv wo mc) (kd Nw v) v u2))), (5, .int (nI u2))]) hx hb dX6_nets_203 rfl hl (by decide) rfl (fun ls hl => ?_)
                              refine lv_iinc (v := nI (v + 1)) (lv' := [(3, .int (nI (v + 1))), (2, .int (nI ((nc (mn Ob Rv wo mc) (kd Nw) v) + 1))), (0, .ref h0), (1, .int wo), (4, .int (bI (fs (mn Ob Rv wo mc) (kd Nw v) v u2))), (5, .int (nI u2))]) hx hb dX6_nets_204 hl (k := 3) rfl (nI_1 _) (by decide) rfl (fun ls hl => ?_)
                              refine lv_goto (tgt := 120) hx hb dX6_nets_207 (by decide) ?_
                              have eu_ : u2 = v := by omega
                              rw [eu_] at c_194
                              exact ih_120 (v + 1) (by omega) (by omega) _ _ ls (hw.perm [5, 6, 0, 1, 2, 3, 4] rfl (by decide)) (lv_add (lv_add (lv_add (lv_add (lv_nil hl) (lv_at hl 0 rfl)) (lv_eqv (lv_at hl 1 rfl) (zN (by simp [nc, c_194])))) (lv_at hl 3 rfl)) (lv_at hl 2 rfl))
                          · refine lv_iload hx hb dX6_nets_157 (lv_at hl 4 rfl) ?_
                            have j_183 : ∀ (H : Heap) (locs : List Loc), ZW E A s [(aO, ia E 24 (nA Ob)), (aR, ia E 24 (nA Rv)), (aL, ia E 48 (nA Lo)), (aG, ia E 48 (nA Hi)), (aV, ia E 20 (nA (mn Ob Rv wo mc))), (h0, ob 6 [.ref aN, .ref aH, .int (nI ed), .int (nI mc), .ref aO, .ref aR, .ref aL, .ref aG, .ref aT, .ref aE, .ref aB, .ref aV]), (aN, ia E 97 (nA Nw))] H locs → W p l e rmX6_nets s m args below meth c H locs 0 0 Q (F0 m 183 ls [.int (bI (fs (mn Ob Rv wo mc) (kd Nw v) v (u2 + 1)))]) := by
                              intro H locs hw
                              refine lv_istore (lv' := [(4, .int (bI (fs (mn Ob Rv wo mc) (kd Nw v) v (u2 + 1)))), (0, .ref h0), (1, .int wo), (2, .int (nI (nc (mn Ob Rv wo mc) (kd Nw) v))), (3, .int (nI v)), (5, .int (nI u2))]) hx hb dX6_nets_183 hl (by decide) rfl (fun ls hl => ?_)
                              refine lv_iinc (v := nI (u2 + 1)) (lv' := [(5, .int (nI (u2 + 1))), (4, .int (bI (fs (mn Ob Rv wo mc) (kd Nw v) v (u2 + 1)))), (0, .ref h0), (1, .int wo), (2, .int (nI (nc (mn Ob Rv wo mc) (kd Nw) v))), (3, .int (nI v))]) hx hb dX6_nets_185 hl (k := 5) rfl (nI_1 _) (by decide) rfl (fun ls hl => ?_)
                              refine lv_goto (tgt := 151) hx hb dX6_nets_188 (by decide) ?_
                              exact ih_151 (u2 + 1) (by omega) (by omega) _ _ ls (hw) (lv_add (lv_add (lv_add (lv_add (lv_add (lv_add (lv_nil hl) (lv_at hl 0 rfl)) (lv_at hl 1 rfl)) (lv_at hl 5 rfl)) (lv_at hl 4 rfl)) (lv_at hl 3 rfl)) (lv_at hl 2 rfl))
                            refine z_ifb_eq hx hb 182 dX6_nets_159 (by decide) (fun c_159 => ?_) (fun c_159 => ?_)
                            · refine lv_iconst (v := nI 0) hx hb dX6_nets_182 (by decide) ?_
                              exact zSt (zNB0 (by simp [fs, c_159])) (j_183 _ _ (hw))
                            · refine lv_aload_n hx hb dX6_nets_162 rfl (lv_at hl 0 rfl) ?_
                              refine z_get cx hw 5 11 rfl rfl inlX6 (by decide) wd_80 rfl dX6_nets_163 ?_
                              refine lv_iload hx hb dX6_nets_166 (lv_at hl 5 rfl) ?_
                              refine z_aldN cx hw 4 rfl (u2) rfl (by omega) (by decide) dX6_nets_168 ?_
                              refine lv_aload_n hx hb dX6_nets_169 rfl (lv_at hl 0 rfl) ?_
                              refine z_get cx hw 5 11 rfl rfl inlX6 (by decide) wd_80 rfl dX6_nets_170 ?_
                              refine lv_iload_n hx hb dX6_nets_173 rfl (lv_at hl 3 rfl) ?_
                              refine z_aldN cx hw 4 rfl (v) rfl (by omega) (by decide) dX6_nets_174 ?_
                              have bu_ := mn_lt (wo := wo) hB.1 hB.2.1 mc u2 (by omega)
                              have bv_ := mn_lt (wo := wo) hB.1 hB.2.1 mc v (by omega)
                              refine z_icmp_eq hx hb (by omega) (by omega) 182 dX6_nets_175 (by decide) (fun c_175 => ?_) (fun c_175 => ?_)
                              · refine lv_iconst (v := nI 0) hx hb dX6_nets_182 (by decide) ?_
                                exact zSt (zNB0 (by simp [fs, c_159, c_175])) (j_183 _ _ (hw))
                              · refine lv_iconst (v := nI 1) hx hb dX6_nets_178 (by decide) ?_
                                refine lv_goto (tgt := 183) hx hb dX6_nets_179 (by decide) ?_
                                exact zSt (zNB1 (by simp [fs, c_159, c_175])) (j_183 _ _ (hw))
                      exact loop_151 _ 0 (by omega) (Nat.lt_succ_self _) _ _ ls (hw) (lv_add (lv_add (lv_add (lv_add (lv_add (lv_add (lv_nil hl) (lv_at hl 0 rfl)) (lv_eqv (lv_at hl 1 rfl) (zB (by rfl)))) (lv_at hl 5 rfl)) (lv_at hl 4 rfl)) (lv_at hl 3 rfl)) (lv_at hl 2 rfl))
                    refine z_if_le hx hb (by omega) 145 dX6_nets_138 (by decide) (fun c_138 => ?_) (fun c_138 => ?_)
                    · refine lv_iconst (v := nI 0) hx hb dX6_nets_145 (by decide) ?_
                      exact zSt (zNB0 (by simp [kd, c_138])) (j_146 _ _ (hw))
                    · refine lv_iconst (v := nI 1) hx hb dX6_nets_141 (by decide) ?_
                      refine lv_goto (tgt := 146) hx hb dX6_nets_142 (by decide) ?_
                      exact zSt (zNB1 (by simp [kd, c_138])) (j_146 _ _ (hw))
              exact loop_120 _ 0 (by omega) (Nat.lt_succ_self _) _ _ ls (hw) (lv_add (lv_add (lv_add (lv_add (lv_nil hl) (lv_at hl 0 rfl)) (lv_eqv (lv_at hl 1 rfl) (zN (by rfl)))) (lv_at hl 3 rfl)) (lv_at hl 2 rfl))
            · refine lv_aload_n hx hb dX6_nets_31 rfl (lv_at hl 0 rfl) ?_
              refine z_get cx hw 0 11 rfl rfl inlX6 (by decide) wd_80 rfl dX6_nets_32 ?_
              refine lv_aload_n hx hb dX6_nets_35 rfl (lv_at hl 0 rfl) ?_
              refine z_get cx hw 0 4 rfl rfl inlX6 (by decide) wd_72 rfl dX6_nets_36 ?_
              refine lv_iload_n hx hb dX6_nets_39 rfl (lv_at hl 2 rfl) ?_
              refine z_aldN cx hw 2 rfl (k) rfl (by omega) (by decide) dX6_nets_40 ?_
              have bo_ := hB.1 k
              refine z_aldN cx hw 6 rfl (Ob k) rfl (by omega) (by decide) dX6_nets_41 ?_
              refine lv_istore_n (lv' := [(3, .int (nI ((mn Ob Rv wo k) (Ob k)))), (0, .ref h0), (1, .int wo), (2, .int (nI k))]) hx hb dX6_nets_42 rfl hl (by decide) rfl (fun ls hl => ?_)
              refine lv_aload_n hx hb dX6_nets_43 rfl (lv_at hl 1 rfl) ?_
              refine z_get cx hw 0 11 rfl rfl inlX6 (by decide) wd_80 rfl dX6_nets_44 ?_
              refine lv_bipush (v := nI 10) hx hb dX6_nets_47 (by decide) ?_
              refine lv_aload_n hx hb dX6_nets_49 rfl (lv_at hl 1 rfl) ?_
              refine z_get cx hw 0 5 rfl rfl inlX6 (by decide) wd_73 rfl dX6_nets_50 ?_
              refine lv_iload_n hx hb dX6_nets_53 rfl (lv_at hl 3 rfl) ?_
              refine z_aldN cx hw 3 rfl (k) rfl (by omega) (by decide) dX6_nets_54 ?_
              refine z_iadd hx hb (10 + (Rv k)) rfl dX6_nets_55 ?_
              have br_ := hB.2.1 k
              refine z_aldN cx hw 6 rfl (10 + (Rv k)) rfl (by omega) (by decide) dX6_nets_56 ?_
              refine lv_istore (lv' := [(4, .int (nI ((mn Ob Rv wo k) (10 + (Rv k))))), (3, .int (nI ((mn Ob Rv wo k) (Ob k)))), (0, .ref h0), (1, .int wo), (2, .int (nI k))]) hx hb dX6_nets_57 hl (by decide) rfl (fun ls hl => ?_)
              refine lv_iconst (v := nI 0) hx hb dX6_nets_59 (by decide) ?_
              refine lv_istore (lv' := [(5, .int (nI 0)), (4, .int (nI ((mn Ob Rv wo k) (10 + (Rv k))))), (3, .int (nI ((mn Ob Rv wo k) (Ob k)))), (0, .ref h0), (1, .int wo), (2, .int (nI k))]) hx hb dX6_nets_60 hl (by decide) rfl (fun ls hl => ?_)
              have loop_62 : ∀ (fuel : Nat) (i : Nat) (hi : i ≤ 20) (hm : 20 - i < fuel) (H : Heap) (locs : List Loc) (ls : Array Slot), ZW E A s [(h0, ob 6 [.ref aN, .ref aH, .int (nI ed), .int (nI mc), .ref aO, .ref aR, .ref aL, .ref aG, .ref aT, .ref aE, .ref aB, .ref aV]), (aN, ia E 97 (nA Nw)), (aO, ia E 24 (nA Ob)), (aR, ia E 24 (nA Rv)), (aL, ia E 48 (nA Lo)), (aG, ia E 48 (nA Hi)), (aV, ia E 20 (nA (nkf (decide (nI k = wo)) (mn Ob Rv wo k) (mn Ob Rv wo k (Ob k)) (mn Ob Rv wo k (10 + Rv k)) i)))] H locs → lv_has ls 6 [(0, .ref h0), (1, .int wo), (2, .int (nI k)), (3, .int (nI ((mn Ob Rv wo k) (Ob k)))), (4, .int (nI ((mn Ob Rv wo k) (10 + (Rv k))))), (5, .int (nI i))] → W p l e rmX6_nets s m args below meth c H locs 0 0 Q (F0 m 62 ls []) := by
                intro fuel
                induction fuel with
                | zero => intro i hi hm; exact absurd hm (Nat.not_lt_zero _)
                | succ fuel ih_62 =>
                  intro i hi hm H locs ls hw hl
                  refine lv_iload hx hb dX6_nets_62 (lv_at hl 5 rfl) ?_
                  refine lv_bipush (v := nI 20) hx hb dX6_nets_64 (by decide) ?_
                  refine z_icmp_ge hx hb (by omega) (by decide) 110 dX6_nets_66 (by decide) (fun c_66 => ?_) (fun c_66 => ?_)
                  · refine lv_iinc (v := nI (k + 1)) (lv' := [(2, .int (nI (k + 1))), (0, .ref h0), (1, .int wo), (3, .int (nI ((mn Ob Rv wo k) (Ob k)))), (4, .int (nI ((mn Ob Rv wo k) (10 + (Rv k))))), (5, .int (nI i))]) hx hb dX6_nets_110 hl (k := 2) rfl (nI_1 _) (by decide) rfl (fun ls hl => ?_)
                    refine lv_goto (tgt := 23) hx hb dX6_nets_113 (by decide) ?_
                    have ei_ : i = 20 := by omega
                    have e_b23_0 : (nkf (decide (nI k = wo)) (mn Ob Rv wo k) (mn Ob Rv wo k (Ob k)) (mn Ob Rv wo k (10 + Rv k)) i) = (mn Ob Rv wo (k + 1)) := by rw [ei_]; rfl
                    exact ih_23 (k + 1) (by omega) (by omega) _ _ ls ((hw).cast (zc rfl (zc rfl (zc rfl (zc rfl (zc rfl (zc rfl (zc (congrArg (fun z => ((aV, ia E 20 (nA z)) : Nat × va_E)) e_b23_0) rfl)))))))) (lv_add (lv_add (lv_add (lv_nil hl) (lv_at hl 0 rfl)) (lv_at hl 2 rfl)) (lv_at hl 1 rfl))
                  · refine lv_aload_n hx hb dX6_nets_69 rfl (lv_at hl 0 rfl) ?_
                    refine z_get cx hw 0 11 rfl rfl inlX6 (by decide) wd_80 rfl dX6_nets_70 ?_
                    refine lv_iload hx hb dX6_nets_73 (lv_at hl 5 rfl) ?_
                    refine lv_iload_n hx hb dX6_nets_75 rfl (lv_at hl 2 rfl) ?_
                    refine lv_iload_n hx hb dX6_nets_76 rfl (lv_at hl 1 rfl) ?_
                    have j_103 : ∀ (H : Heap) (locs : List Loc), ZW E A s [(h0, ob 6 [.ref aN, .ref aH, .int (nI ed), .int (nI mc), .ref aO, .ref aR, .ref aL, .ref aG, .ref aT, .ref aE, .ref aB, .ref aV]), (aN, ia E 97 (nA Nw)), (aO, ia E 24 (nA Ob)), (aR, ia E 24 (nA Rv)), (aL, ia E 48 (nA Lo)), (aG, ia E 48 (nA Hi)), (aV, ia E 20 (nA (nkf (decide (nI k = wo)) (mn Ob Rv wo k) (mn Ob Rv wo k (Ob k)) (mn Ob Rv wo k (10 + Rv k)) i)))] H locs → W p l e rmX6_nets s m args below meth c H locs 0 0 Q (F0 m 103 ls [.int (nI (nkv (decide (nI k = wo)) (mn Ob Rv wo k i) (mn Ob Rv wo k (Ob k)) (mn Ob Rv wo k (10 + Rv k)))), .int (nI i), .ref aV]) := by
                      intro H locs hw
                      refine z_astN cx hw 6 rfl (i) rfl (by omega) (by decide) dX6_nets_103 (fun H locs hw => ?_)
                      have hw : ZW E A s [(h0, ob 6 [.ref aN, .ref aH, .int (nI ed), .int (nI mc), .ref aO, .ref aR, .ref aL, .ref aG, .ref aT, .ref aE, .ref aB, .ref aV]), (aN, ia E 97 (nA Nw)), (aO, ia E 24 (nA Ob)), (aR, ia E 24 (nA Rv)), (aL, ia E 48 (nA Lo)), (aG, ia E 48 (nA Hi)), (aV, ia E 20 (nA (updN (nkf (decide (nI k = wo)) (mn Ob Rv wo k) (mn Ob Rv wo k (Ob k)) (mn Ob Rv wo k (10 + Rv k)) i) i (nkv (decide (nI k = wo)) (mn Ob Rv wo k i) (mn Ob Rv wo k (Ob k)) (mn Ob Rv wo k (10 + Rv k))))))] H locs := hw
                      refine lv_iinc (v := nI (i + 1)) (lv' := [(5, .int (nI (i + 1))), (0, .ref h0), (1, .int wo), (2, .int (nI k)), (3, .int (nI ((mn Ob Rv wo k) (Ob k)))), (4, .int (nI ((mn Ob Rv wo k) (10 + (Rv k)))))]) hx hb dX6_nets_104 hl (k := 5) rfl (nI_1 _) (by decide) rfl (fun ls hl => ?_)
                      refine lv_goto (tgt := 62) hx hb dX6_nets_107 (by decide) ?_
                      have e_b62_0 : (updN (nkf (decide (nI k = wo)) (mn Ob Rv wo k) (mn Ob Rv wo k (Ob k)) (mn Ob Rv wo k (10 + Rv k)) i) i (nkv (decide (nI k = wo)) (mn Ob Rv wo k i) (mn Ob Rv wo k (Ob k)) (mn Ob Rv wo k (10 + Rv k)))) = (nkf (decide (nI k = wo)) (mn Ob Rv wo k) (mn Ob Rv wo k (Ob k)) (mn Ob Rv wo k (10 + Rv k)) (i + 1)) := by rw [nkf_s]
                      exact ih_62 (i + 1) (by omega) (by omega) _ _ ls ((hw).cast (zc rfl (zc rfl (zc rfl (zc rfl (zc rfl (zc rfl (zc (congrArg (fun z => ((aV, ia E 20 (nA z)) : Nat × va_E)) e_b62_0) rfl)))))))) (lv_add (lv_add (lv_add (lv_add (lv_add (lv_add (lv_nil hl) (lv_at hl 0 rfl)) (lv_at hl 5 rfl)) (lv_at hl 4 rfl)) (lv_at hl 3 rfl)) (lv_at hl 2 rfl)) (lv_at hl 1 rfl))
                    refine lv_icmp_eq (tgt := 96) hx hb dX6_nets_77 (by decide) (fun c_77 => ?_) (fun c_77 => ?_)
                    · refine lv_aload_n hx hb dX6_nets_96 rfl (lv_at hl 0 rfl) ?_
                      refine z_get cx hw 0 11 rfl rfl inlX6 (by decide) wd_80 rfl dX6_nets_97 ?_
                      refine lv_iload hx hb dX6_nets_100 (lv_at hl 5 rfl) ?_
                      refine z_aldN cx hw 6 rfl (i) rfl (by omega) (by decide) dX6_nets_102 ?_
                      rw [nkf_at]
                      have bi_ := mn_lt (wo := wo) hB.1 hB.2.1 k i (by omega)
                      have ba_ := mn_lt (wo := wo) hB.1 hB.2.1 k (Ob k) (by have := hB.1 k; omega)
                      exact zSt (zN (by simp [nkv, c_77])) (j_103 _ _ (hw))
                    · refine lv_aload_n hx hb dX6_nets_80 rfl (lv_at hl 0 rfl) ?_
                      refine z_get cx hw 0 11 rfl rfl inlX6 (by decide) wd_80 rfl dX6_nets_81 ?_
                      refine lv_iload hx hb dX6_nets_84 (lv_at hl 5 rfl) ?_
                      refine z_aldN cx hw 6 rfl (i) rfl (by omega) (by decide) dX6_nets_86 ?_
                      rw [nkf_at]
                      have bi_ := mn_lt (wo := wo) hB.1 hB.2.1 k i (by omega)
                      have ba_ := mn_lt (wo := wo) hB.1 hB.2.1 k (Ob k) (by have := hB.1 k; omega)
                      refine lv_iload_n hx hb dX6_nets_87 rfl (lv_at hl 3 rfl) ?_
                      refine z_icmp_ne hx hb (by omega) (by omega) 96 dX6_nets_88 (by decide) (fun c_88 => ?_) (fun c_88 => ?_)
                      · refine lv_aload_n hx hb dX6_nets_96 rfl (lv_at hl 0 rfl) ?_
                        refine z_get cx hw 0 11 rfl rfl inlX6 (by decide) wd_80 rfl dX6_nets_97 ?_
                        refine lv_iload hx hb dX6_nets_100 (lv_at hl 5 rfl) ?_
                        refine z_aldN cx hw 6 rfl (i) rfl (by omega) (by decide) dX6_nets_102 ?_
                        rw [nkf_at]
                        have bi_ := mn_lt (wo := wo) hB.1 hB.2.1 k i (by omega)
                        have ba_ := mn_lt (wo := wo) hB.1 hB.2.1 k (Ob k) (by have := hB.1 k; omega)
                        exact zSt (zN (by simp [nkv, c_77, c_88])) (j_103 _ _ (hw))
                      · refine lv_iload hx hb dX6_nets_91 (lv_at hl 4 rfl) ?_
                        refine lv_goto (tgt := 103) hx hb dX6_nets_93 (by decide) ?_
                        exact zSt (zN (by simp [nkv, c_77, c_88])) (j_103 _ _ (hw))
              have e_i62_0 : (mn Ob Rv wo k) = (nkf (decide (nI k = wo)) (mn Ob Rv wo k) (mn Ob Rv wo k (Ob k)) (mn Ob Rv wo k (10 + Rv k)) 0) := by rw [← nkf_0]
              exact loop_62 _ 0 (by omega) (Nat.lt_succ_self _) _ _ ls ((hw).cast (zc rfl (zc rfl (zc rfl (zc rfl (zc rfl (zc rfl (zc (congrArg (fun z => ((aV, ia E 20 (nA z)) : Nat × va_E)) e_i62_0) rfl)))))))) (lv_add (lv_add (lv_add (lv_add (lv_add (lv_add (lv_nil hl) (lv_at hl 0 rfl)) (lv_at hl 1 rfl)) (lv_at hl 2 rfl)) (lv_at hl 5 rfl)) (lv_at hl 4 rfl)) (lv_at hl 3 rfl))
        exact loop_23 _ 0 (by omega) (Nat.lt_succ_self _) _ _ ls (hw) (lv_add (lv_add (lv_add (lv_nil hl) (lv_at hl 0 rfl)) (lv_at hl 2 rfl)) (lv_at hl 1 rfl))
      · refine lv_aload_n hx hb dX6_nets_8 rfl (lv_at hl 0 rfl) ?_
        refine z_get cx hw 0 11 rfl rfl inlX6 (by decide) wd_80 rfl dX6_nets_9 ?_
        refine lv_iload_n hx hb dX6_nets_12 rfl (lv_at hl 2 rfl) ?_
        refine lv_iload_n hx hb dX6_nets_13 rfl (lv_at hl 2 rfl) ?_
        refine z_astN cx hw 6 rfl (v0) rfl (by omega) (by decide) dX6_nets_14 (fun H locs hw => ?_)
        have hw : ZW E A s [(h0, ob 6 [.ref aN, .ref aH, .int (nI ed), .int (nI mc), .ref aO, .ref aR, .ref aL, .ref aG, .ref aT, .ref aE, .ref aB, .ref aV]), (aN, ia E 97 (nA Nw)), (aO, ia E 24 (nA Ob)), (aR, ia E 24 (nA Rv)), (aL, ia E 48 (nA Lo)), (aG, ia E 48 (nA Hi)), (aV, ia E 20 (nA (updN (idk Nt v0) v0 v0)))] H locs := hw
        refine lv_iinc (v := nI (v0 + 1)) (lv' := [(2, .int (nI (v0 + 1))), (0, .ref h0), (1, .int wo)]) hx hb dX6_nets_15 hl (k := 2) rfl (nI_1 _) (by decide) rfl (fun ls hl => ?_)
        refine lv_goto (tgt := 2) hx hb dX6_nets_18 (by decide) ?_
        have e_b2_0 : (updN (idk Nt v0) v0 v0) = (idk Nt (v0 + 1)) := by rw [idk_s]
        exact ih_2 (v0 + 1) (by omega) (by omega) _ _ ls ((hw).cast (zc rfl (zc rfl (zc rfl (zc rfl (zc rfl (zc rfl (zc (congrArg (fun z => ((aV, ia E 20 (nA z)) : Nat × va_E)) e_b2_0) rfl)))))))) (lv_add (lv_add (lv_add (lv_nil hl) (lv_at hl 0 rfl)) (lv_at hl 2 rfl)) (lv_at hl 1 rfl))
  have e_i2_0 : Nt = (idk Nt 0) := by rw [← idk_0]
  exact loop_2 _ 0 (by omega) (Nat.lt_succ_self _) _ _ ls ((hw).cast (zc rfl (zc rfl (zc rfl (zc rfl (zc rfl (zc rfl (zc (congrArg (fun z => ((aV, ia E 20 (nA z)) : Nat × va_E)) e_i2_0) rfl)))))))) (lv_add (lv_add (lv_add (lv_nil hl) (lv_at hl 0 rfl)) (lv_at hl 2 rfl)) (lv_at hl 1 rfl))

def rmX6_componentCount : Room := { frames := 2, cells := 0, slots := 0, locals := 49 }
set_option maxHeartbeats 4000000 in
set_option maxRecDepth 100000 in
theorem c_X6_componentCount (l : Launch) (E : ZE) (h0 aN aH aO aR aL aG aT aE aB aV : Nat) (ed mc : Nat) (Nw : Nat → Nat) (Ob Rv Lo Hi : Nat → Nat) (Nt : Nat → Nat) (hn : Nw 96 ≤ 24) (hF : ∀ j, j < 96 → Nw j < 10) (hW : ∀ k sd, k < 24 → sd < 2 → Nw (4 * k + 2 + sd) ≤ 5) (hB : Bd Ob ∧ Bd Rv ∧ Bd Lo ∧ Bd Hi) : ZMi l yX6_componentCount cX6_componentCount 1 (some .int) rmX6_componentCount E [.ref h0] [(h0, ob 6 [.ref aN, .ref aH, .int (nI ed), .int (nI mc), .ref aO, .ref aR, .ref aL, .ref aG, .ref aT, .ref aE, .ref aB, .ref aV]), (aN, ia E 97 (nA Nw)), (aO, ia E 24 (nA Ob)), (aR, ia E 24 (nA Rv)), (aL, ia E 48 (nA Lo)), (aG, ia E 48 (nA Hi)), (aV, ia E 20 (nA Nt))] (S := (Nat → Nat) × (Nat → Nat) × (Nat → Nat) × (Nat → Nat)) (fun r u => r = nI (nc (mn u.1 u.2.1 (-1) (rk (hasP Nw (Nw 96)) 100)) (kd Nw) 20) ∧ FI Nw (Nw 96) 100 u.1 u.2.1 u.2.2.1 u.2.2.2 ∧ Bd u.1 ∧ Bd u.2.1 ∧ Bd u.2.2.1 ∧ Bd u.2.2.2) (fun u => [(h0, ob 6 [.ref aN, .ref aH, .int (nI ed), .int (nI (rk (hasP Nw (Nw 96)) 100)), .ref aO, .ref aR, .ref aL, .ref aG, .ref aT, .ref aE, .ref aB, .ref aV]), (aN, ia E 97 (nA Nw)), (aO, ia E 24 (nA u.1)), (aR, ia E 24 (nA u.2.1)), (aL, ia E 48 (nA u.2.2.1)), (aG, ia E 48 (nA u.2.2.2)), (aV, ia E 20 (nA (mn u.1 u.2.1 (-1) (rk (hasP Nw (Nw 96)) 100))))]) := by
  refine z_mi (by decide) (Nat.le_of_ble_eq_true rfl) ?_
  intro p e s m args below meth c A Q ls cx hin hw hl ret
  obtain ⟨hx, hb, hml, hown, hts, hK, hN, hA, hlk⟩ := id cx
  have hl : lv_has ls 1 [(0, .ref h0)] := hl
  refine lv_aload_n hx hb dX6_componentCount_0 rfl (lv_at hl 0 rfl) ?_
  refine z_rv0 (wr := [(aV, ia E 20 (nA Nt))]) cx hw [0, 1, 2, 3, 4, 5] [6] rfl rfl (by decide) (by decide) rfl rfl (z_runV (As := []) (rest := []) cx hw rfl rfl [0, 1, 2, 3, 4, 5] rfl rfl (c_X6_finds l E h0 aN aH aO aR aL aG aT aE aB aV ed mc Nw Ob Rv Lo Hi (by omega) (hF) (hW) (hB) s.heap.size) mf_X6_finds wd_284 ⟨Nat.le_of_ble_eq_true rfl, Nat.le_of_ble_eq_true rfl⟩ hl (Nat.le_of_ble_eq_true rfl) dX6_componentCount_1 ⟨Nat.le_of_ble_eq_true rfl, Nat.le_of_ble_eq_true rfl⟩) (fun u H locs hp hw => ?_)
  obtain ⟨Ob, Rv, Lo, Hi⟩ := u
  have hp_1 : FI Nw (Nw 96) 100 Ob Rv Lo Hi ∧ Bd Ob ∧ Bd Rv ∧ Bd Lo ∧ Bd Hi := hp
  have hw : ZW E A s [(aV, ia E 20 (nA Nt)), (h0, ob 6 [.ref aN, .ref aH, .int (nI ed), .int (nI (rk (hasP Nw (Nw 96)) 100)), .ref aO, .ref aR, .ref aL, .ref aG, .ref aT, .ref aE, .ref aB, .ref aV]), (aN, ia E 97 (nA Nw)), (aO, ia E 24 (nA Ob)), (aR, ia E 24 (nA Rv)), (aL, ia E 48 (nA Lo)), (aG, ia E 48 (nA Hi))] H locs := hw
  have hmm_ := rk_hasP Nw (Nw 96) 100
  refine lv_aload_n hx hb dX6_componentCount_4 rfl (lv_at hl 0 rfl) ?_
  refine lv_iconst (v := (-1)) hx hb dX6_componentCount_5 (by decide) ?_
  refine z_ri0 (wr := []) cx hw [1, 2, 3, 4, 5, 6, 0] [] rfl rfl (by decide) (by decide) rfl rfl (z_runV (As := [.int ((-1))]) (rest := []) cx hw rfl rfl [1, 2, 3, 4, 5, 6, 0] rfl rfl (c_X6_nets l E h0 aN aH aO aR aL aG aT aE aB aV ed (rk (hasP Nw (Nw 96)) 100) Nw Ob Rv Lo Hi Nt (-1) (by omega) (hF) (by omega) (hp_1.2) H.size) mf_X6_nets wd_337 ⟨Nat.le_of_ble_eq_true rfl, Nat.le_of_ble_eq_true rfl⟩ hl (Nat.le_of_ble_eq_true rfl) dX6_componentCount_6 ⟨Nat.le_of_ble_eq_true rfl, Nat.le_of_ble_eq_true rfl⟩) (fun r _ H locs hp hw => ?_)
  have hr_6 := hp
  have hr_6 : r = nI (nc (mn Ob Rv (-1) (rk (hasP Nw (Nw 96)) 100)) (kd Nw) 20) := hr_6
  subst hr_6
  have hw : ZW E A s [(h0, ob 6 [.ref aN, .ref aH, .int (nI ed), .int (nI (rk (hasP Nw (Nw 96)) 100)), .ref aO, .ref aR, .ref aL, .ref aG, .ref aT, .ref aE, .ref aB, .ref aV]), (aN, ia E 97 (nA Nw)), (aO, ia E 24 (nA Ob)), (aR, ia E 24 (nA Rv)), (aL, ia E 48 (nA Lo)), (aG, ia E 48 (nA Hi)), (aV, ia E 20 (nA (mn Ob Rv (-1) (rk (hasP Nw (Nw 96)) 100))))] H locs := hw
  exact ret (nI (nc (mn Ob Rv (-1) (rk (hasP Nw (Nw 96)) 100)) (kd Nw) 20)) (Ob, Rv, Lo, Hi) 9 ls H locs dX6_componentCount_9 (⟨rfl, hp_1⟩) (hw)

def rmX6_componentSize : Room := { frames := 3, cells := 0, slots := 0, locals := 63 }
set_option maxHeartbeats 4000000 in
set_option maxRecDepth 100000 in
theorem c_X6_componentSize (l : Launch) (E : ZE) (h0 aN aH aO aR aL aG aT aE aB aV : Nat) (ed mc : Nat) (Nw : Nat → Nat) (Ob Rv Lo Hi : Nat → Nat) (Nt : Nat → Nat) (sd x : Int32) (hn : Nw 96 ≤ 24) (hF : ∀ j, j < 96 → Nw j < 10) (hW : ∀ k sd, k < 24 → sd < 2 → Nw (4 * k + 2 + sd) ≤ 5) (hB : Bd Ob ∧ Bd Rv ∧ Bd Lo ∧ Bd Hi) : ZMi l yX6_componentSize cX6_componentSize 5 (some .int) rmX6_componentSize E [.ref h0, .int sd, .int x] [(h0, ob 6 [.ref aN, .ref aH, .int (nI ed), .int (nI mc), .ref aO, .ref aR, .ref aL, .ref aG, .ref aT, .ref aE, .ref aB, .ref aV]), (aN, ia E 97 (nA Nw)), (aO, ia E 24 (nA Ob)), (aR, ia E 24 (nA Rv)), (aL, ia E 48 (nA Lo)), (aG, ia E 48 (nA Hi)), (aV, ia E 20 (nA Nt))] (S := (Nat → Nat) × (Nat → Nat) × (Nat → Nat) × (Nat → Nat) × Nat × (Nat → Nat)) (fun r u => ((inR sd 2 && inR x 10) = false ∧ r = -1 ∨ (inR sd 2 && inR x 10) = true ∧ cnt Nw (cl sd) (cl x) (Nw 96) = 0 ∧ r = -3 ∨ (inR sd 2 && inR x 10) = true ∧ 0 < cnt Nw (cl sd) (cl x) (Nw 96) ∧ FI Nw (Nw 96) 100 u.1 u.2.1 u.2.2.1 u.2.2.2.1 ∧ r = nI (cqN (mn u.1 u.2.1 (-1) (rk (hasP Nw (Nw 96)) 100)) (mn u.1 u.2.1 (-1) (rk (hasP Nw (Nw 96)) 100) (10 * cl sd + cl x)) 20)) ∧ Bd u.1 ∧ Bd u.2.1 ∧ Bd u.2.2.1 ∧ Bd u.2.2.2.1) (fun u => [(h0, ob 6 [.ref aN, .ref aH, .int (nI ed), .int (nI u.2.2.2.2.1), .ref aO, .ref aR, .ref aL, .ref aG, .ref aT, .ref aE, .ref aB, .ref aV]), (aN, ia E 97 (nA Nw)), (aO, ia E 24 (nA u.1)), (aR, ia E 24 (nA u.2.1)), (aL, ia E 48 (nA u.2.2.1)), (aG, ia E 48 (nA u.2.2.2.1)), (aV, ia E 20 (nA u.2.2.2.2.2))]) := by
  refine z_mi (by decide) (Nat.le_of_ble_eq_true rfl) ?_
  intro p e s m args below meth c A Q ls cx hin hw hl ret
  obtain ⟨hx, hb, hml, hown, hts, hK, hN, hA, hlk⟩ := id cx
  have hl : lv_has ls 5 [(0, .ref h0), (1, .int sd), (2, .int x)] := hl
  refine lv_iload_n hx hb dX6_componentSize_0 rfl (lv_at hl 1 rfl) ?_
  refine lv_iload_n hx hb dX6_componentSize_1 rfl (lv_at hl 2 rfl) ?_
  refine z_ri0 (wr := [(h0, ob 6 [.ref aN, .ref aH, .int (nI ed), .int (nI mc), .ref aO, .ref aR, .ref aL, .ref aG, .ref aT, .ref aE, .ref aB, .ref aV]), (aN, ia E 97 (nA Nw)), (aO, ia E 24 (nA Ob)), (aR, ia E 24 (nA Rv)), (aL, ia E 48 (nA Lo)), (aG, ia E 48 (nA Hi)), (aV, ia E 20 (nA Nt))]) cx hw [] [0, 1, 2, 3, 4, 5, 6] rfl rfl (by decide) (by decide) rfl rfl (z_runS (As := [.int sd, .int x]) (rest := []) cx hw [] rfl rfl (c_X6_isDie l E sd x  s.heap.size) mf_X6_isDie wd_171 ⟨Nat.le_of_ble_eq_true rfl, Nat.le_of_ble_eq_true rfl⟩ hl (Nat.le_of_ble_eq_true rfl) dX6_componentSize_2 ⟨Nat.le_of_ble_eq_true rfl, Nat.le_of_ble_eq_true rfl⟩) (fun r _ H locs hp hw => ?_)
  have hr_2 := hp
  have hr_2 : r = bI (inR sd 2 && inR x 10) := hr_2
  subst hr_2
  have hw : ZW E A s [(h0, ob 6 [.ref aN, .ref aH, .int (nI ed), .int (nI mc), .ref aO, .ref aR, .ref aL, .ref aG, .ref aT, .ref aE, .ref aB, .ref aV]), (aN, ia E 97 (nA Nw)), (aO, ia E 24 (nA Ob)), (aR, ia E 24 (nA Rv)), (aL, ia E 48 (nA Lo)), (aG, ia E 48 (nA Hi)), (aV, ia E 20 (nA Nt))] H locs := hw
  refine z_ifb_ne hx hb 10 dX6_componentSize_5 (by decide) (fun c_5 => ?_) (fun c_5 => ?_)
  · obtain ⟨hi1_, hi2_⟩ : inR sd 2 = true ∧ inR x 10 = true := by simpa using c_5
    obtain ⟨t, ht, rfl⟩ := inR_get hi1_ (by omega)
    obtain ⟨a2, ha, rfl⟩ := inR_get hi2_ (by omega)
    refine lv_aload_n hx hb dX6_componentSize_10 rfl (lv_at hl 0 rfl) ?_
    refine lv_iload_n hx hb dX6_componentSize_11 rfl (lv_at hl 1 rfl) ?_
    refine lv_iload_n hx hb dX6_componentSize_12 rfl (lv_at hl 2 rfl) ?_
    refine z_ri0 (wr := [(aO, ia E 24 (nA Ob)), (aR, ia E 24 (nA Rv)), (aL, ia E 48 (nA Lo)), (aG, ia E 48 (nA Hi)), (aV, ia E 20 (nA Nt))]) cx hw [0, 1] [2, 3, 4, 5, 6] rfl rfl (by decide) (by decide) rfl rfl (z_runV (As := [.int (nI t), .int (nI a2)]) (rest := []) cx hw rfl rfl [0, 1] rfl rfl (c_X6_specimens l E h0 aN aH aO aR aL aG aT aE aB aV ed mc Nw t a2 (by omega) (hF) (by omega) (by omega) H.size) mf_X6_specimens wd_174 ⟨Nat.le_of_ble_eq_true rfl, Nat.le_of_ble_eq_true rfl⟩ hl (Nat.le_of_ble_eq_true rfl) dX6_componentSize_13 ⟨Nat.le_of_ble_eq_true rfl, Nat.le_of_ble_eq_true rfl⟩) (fun r _ H locs hp hw => ?_)
    have hr_13 := hp
    have hr_13 : r = nI (cnt Nw t a2 (Nw 96)) := hr_13
    subst hr_13
    have hw : ZW E A s [(aO, ia E 24 (nA Ob)), (aR, ia E 24 (nA Rv)), (aL, ia E 48 (nA Lo)), (aG, ia E 48 (nA Hi)), (aV, ia E 20 (nA Nt)), (h0, ob 6 [.ref aN, .ref aH, .int (nI ed), .int (nI mc), .ref aO, .ref aR, .ref aL, .ref aG, .ref aT, .ref aE, .ref aB, .ref aV]), (aN, ia E 97 (nA Nw))] H locs := hw
    have hc_ := cnt_le Nw t a2 (Nw 96)
    refine z_if_ne hx hb (by omega) 22 dX6_componentSize_16 (by decide) (fun c_16 => ?_) (fun c_16 => ?_)
    · refine lv_aload_n hx hb dX6_componentSize_22 rfl (lv_at hl 0 rfl) ?_
      refine z_rv0 (wr := [(aV, ia E 20 (nA Nt))]) cx hw [5, 6, 0, 1, 2, 3] [4] rfl rfl (by decide) (by decide) rfl rfl (z_runV (As := []) (rest := []) cx hw rfl rfl [5, 6, 0, 1, 2, 3] rfl rfl (c_X6_finds l E h0 aN aH aO aR aL aG aT aE aB aV ed mc Nw Ob Rv Lo Hi (by omega) (hF) (hW) (hB) H.size) mf_X6_finds wd_284 ⟨Nat.le_of_ble_eq_true rfl, Nat.le_of_ble_eq_true rfl⟩ hl (Nat.le_of_ble_eq_true rfl) dX6_componentSize_23 ⟨Nat.le_of_ble_eq_true rfl, Nat.le_of_ble_eq_true rfl⟩) (fun u H locs hp hw => ?_)
      obtain ⟨Ob, Rv, Lo, Hi⟩ := u
      have hp_23 : FI Nw (Nw 96) 100 Ob Rv Lo Hi ∧ Bd Ob ∧ Bd Rv ∧ Bd Lo ∧ Bd Hi := hp
      have hw : ZW E A s [(aV, ia E 20 (nA Nt)), (h0, ob 6 [.ref aN, .ref aH, .int (nI ed), .int (nI (rk (hasP Nw (Nw 96)) 100)), .ref aO, .ref aR, .ref aL, .ref aG, .ref aT, .ref aE, .ref aB, .ref aV]), (aN, ia E 97 (nA Nw)), (aO, ia E 24 (nA Ob)), (aR, ia E 24 (nA Rv)), (aL, ia E 48 (nA Lo)), (aG, ia E 48 (nA Hi))] H locs := hw
      have hmm_ := rk_hasP Nw (Nw 96) 100
      refine lv_aload_n hx hb dX6_componentSize_26 rfl (lv_at hl 0 rfl) ?_
      refine lv_iconst (v := (-1)) hx hb dX6_componentSize_27 (by decide) ?_
      refine z_ri0 (wr := []) cx hw [1, 2, 3, 4, 5, 6, 0] [] rfl rfl (by decide) (by decide) rfl rfl (z_runV (As := [.int ((-1))]) (rest := []) cx hw rfl rfl [1, 2, 3, 4, 5, 6, 0] rfl rfl (c_X6_nets l E h0 aN aH aO aR aL aG aT aE aB aV ed (rk (hasP Nw (Nw 96)) 100) Nw Ob Rv Lo Hi Nt (-1) (by omega) (hF) (by omega) (hp_23.2) H.size) mf_X6_nets wd_337 ⟨Nat.le_of_ble_eq_true rfl, Nat.le_of_ble_eq_true rfl⟩ hl (Nat.le_of_ble_eq_true rfl) dX6_componentSize_28 ⟨Nat.le_of_ble_eq_true rfl, Nat.le_of_ble_eq_true rfl⟩) (fun r _ H locs hp hw => ?_)
      have hr_28 := hp
      have hr_28 : r = nI (nc (mn Ob Rv (-1) (rk (hasP Nw (Nw 96)) 100)) (kd Nw) 20) := hr_28
      subst hr_28
      have hw : ZW E A s [(h0, ob 6 [.ref aN, .ref aH, .int (nI ed), .int (nI (rk (hasP Nw (Nw 96)) 100)), .ref aO, .ref aR, .ref aL, .ref aG, .ref aT, .ref aE, .ref aB, .ref aV]), (aN, ia E 97 (nA Nw)), (aO, ia E 24 (nA Ob)), (aR, ia E 24 (nA Rv)), (aL, ia E 48 (nA Lo)), (aG, ia E 48 (nA Hi)), (aV, ia E 20 (nA (mn Ob Rv (-1) (rk (hasP Nw (Nw 96)) 100))))] H locs := hw
      refine lv_pop hx hb dX6_componentSize_31 rfl ?_
      refine lv_iconst (v := nI 0) hx hb dX6_componentSize_32 (by decide) ?_
      refine lv_istore_n (lv' := [(3, .int (nI 0)), (0, .ref h0), (1, .int (nI t)), (2, .int (nI a2))]) hx hb dX6_componentSize_33 rfl hl (by decide) rfl (fun ls hl => ?_)
      refine lv_iconst (v := nI 0) hx hb dX6_componentSize_34 (by decide) ?_
      refine lv_istore (lv' := [(4, .int (nI 0)), (3, .int (nI 0)), (0, .ref h0), (1, .int (nI t)), (2, .int (nI a2))]) hx hb dX6_componentSize_35 hl (by decide) rfl (fun ls hl => ?_)
      have loop_37 : ∀ (fuel : Nat) (k : Nat) (hk : k ≤ 20) (hm : 20 - k < fuel) (H : Heap) (locs : List Loc) (ls : Array Slot), ZW E A s [(h0, ob 6 [.ref aN, .ref aH, .int (nI ed), .int (nI (rk (hasP Nw (Nw 96)) 100)), .ref aO, .ref aR, .ref aL, .ref aG, .ref aT, .ref aE, .ref aB, .ref aV]), (aN, ia E 97 (nA Nw)), (aO, ia E 24 (nA Ob)), (aR, ia E 24 (nA Rv)), (aL, ia E 48 (nA Lo)), (aG, ia E 48 (nA Hi)), (aV, ia E 20 (nA (mn Ob Rv (-1) (rk (hasP Nw (Nw 96)) 100))))] H locs → lv_has ls 5 [(0, .ref h0), (1, .int (nI t)), (2, .int (nI a2)), (3, .int (nI (cqN (mn Ob Rv (-1) (rk (hasP Nw (Nw 96)) 100)) (mn Ob Rv (-1) (rk (hasP Nw (Nw 96)) 100) (10 * t + a2)) k))), (4, .int (nI k))] → W p l e rmX6_componentSize s m args below meth c H locs 0 0 Q (F0 m 37 ls []) := by
        intro fuel
        induction fuel with
        | zero => intro k hk hm; exact absurd hm (Nat.not_lt_zero _)
        | succ fuel ih_37 =>
          intro k hk hm H locs ls hw hl
          refine lv_iload hx hb dX6_componentSize_37 (lv_at hl 4 rfl) ?_
          refine lv_bipush (v := nI 20) hx hb dX6_componentSize_39 (by decide) ?_
          refine z_icmp_ge hx hb (by omega) (by decide) 79 dX6_componentSize_41 (by decide) (fun c_41 => ?_) (fun c_41 => ?_)
          · refine lv_iload_n hx hb dX6_componentSize_79 rfl (lv_at hl 3 rfl) ?_
            have ek_ : k = 20 := by omega
            exact ret (nI (cqN (mn Ob Rv (-1) (rk (hasP Nw (Nw 96)) 100)) (mn Ob Rv (-1) (rk (hasP Nw (Nw 96)) 100) (10 * t + a2)) k)) (Ob, Rv, Lo, Hi, rk (hasP Nw (Nw 96)) 100, mn Ob Rv (-1) (rk (hasP Nw (Nw 96)) 100)) 80 ls H locs dX6_componentSize_80 (⟨Or.inr (Or.inr ⟨c_5, by rw [cl_nI ht (by decide), cl_nI ha (by decide)]; exact c_16, hp_23.1, by rw [ek_, cl_nI ht (by decide), cl_nI ha (by decide)]⟩), hp_23.2⟩) (hw)
          · refine lv_iload_n hx hb dX6_componentSize_44 rfl (lv_at hl 3 rfl) ?_
            refine lv_aload_n hx hb dX6_componentSize_45 rfl (lv_at hl 0 rfl) ?_
            refine z_get cx hw 0 11 rfl rfl inlX6 (by decide) wd_80 rfl dX6_componentSize_46 ?_
            refine lv_iload hx hb dX6_componentSize_49 (lv_at hl 4 rfl) ?_
            refine z_aldN cx hw 6 rfl (k) rfl (by omega) (by decide) dX6_componentSize_51 ?_
            refine lv_aload_n hx hb dX6_componentSize_52 rfl (lv_at hl 0 rfl) ?_
            refine z_get cx hw 0 11 rfl rfl inlX6 (by decide) wd_80 rfl dX6_componentSize_53 ?_
            refine lv_bipush (v := nI 10) hx hb dX6_componentSize_56 (by decide) ?_
            refine lv_iload_n hx hb dX6_componentSize_58 rfl (lv_at hl 1 rfl) ?_
            refine z_imul hx hb (10 * t) rfl dX6_componentSize_59 ?_
            refine lv_iload_n hx hb dX6_componentSize_60 rfl (lv_at hl 2 rfl) ?_
            refine z_iadd hx hb ((10 * t) + a2) rfl dX6_componentSize_61 ?_
            refine z_aldN cx hw 6 rfl ((10 * t) + a2) rfl (by omega) (by decide) dX6_componentSize_62 ?_
            have b1_ := mn_lt (wo := -1) hp_23.2.1 hp_23.2.2.1 (rk (hasP Nw (Nw 96)) 100) k (by omega)
            have b2_ := mn_lt (wo := -1) hp_23.2.1 hp_23.2.2.1 (rk (hasP Nw (Nw 96)) 100) (10 * t + a2) (by omega)
            refine z_icmp_ne hx hb (by omega) (by omega) 70 dX6_componentSize_63 (by decide) (fun c_63 => ?_) (fun c_63 => ?_)
            · refine lv_iconst (v := nI 0) hx hb dX6_componentSize_70 (by decide) ?_
              refine z_iadd hx hb (cqN (mn Ob Rv (-1) (rk (hasP Nw (Nw 96)) 100)) (mn Ob Rv (-1) (rk (hasP Nw (Nw 96)) 100) (10 * t + a2)) k) rfl dX6_componentSize_71 ?_
              refine lv_istore_n (lv' := [(3, .int (nI (cqN (mn Ob Rv (-1) (rk (hasP Nw (Nw 96)) 100)) (mn Ob Rv (-1) (rk (hasP Nw (Nw 96)) 100) (10 * t + a2)) k))), (0, .ref h0), (1, .int (nI t)), (2, .int (nI a2)), (4, .int (nI k))]) hx hb dX6_componentSize_72 rfl hl (by decide) rfl (fun ls hl => ?_)
              refine lv_iinc (v := nI (k + 1)) (lv' := [(4, .int (nI (k + 1))), (3, .int (nI (cqN (mn Ob Rv (-1) (rk (hasP Nw (Nw 96)) 100)) (mn Ob Rv (-1) (rk (hasP Nw (Nw 96)) 100) (10 * t + a2)) k))), (0, .ref h0), (1, .int (nI t)), (2, .int (nI a2))]) hx hb dX6_componentSize_73 hl (k := 4) rfl (nI_1 _) (by decide) rfl (fun ls hl => ?_)
              refine lv_goto (tgt := 37) hx hb dX6_componentSize_76 (by decide) ?_
              exact ih_37 (k + 1) (by omega) (by omega) _ _ ls (hw) (lv_add (lv_add (lv_add (lv_add (lv_add (lv_nil hl) (lv_at hl 0 rfl)) (lv_eqv (lv_at hl 1 rfl) (zN (by simp [cqN, c_63])))) (lv_at hl 4 rfl)) (lv_at hl 3 rfl)) (lv_at hl 2 rfl))
            · refine lv_iconst (v := nI 1) hx hb dX6_componentSize_66 (by decide) ?_
              refine lv_goto (tgt := 71) hx hb dX6_componentSize_67 (by decide) ?_
              refine z_iadd hx hb ((cqN (mn Ob Rv (-1) (rk (hasP Nw (Nw 96)) 100)) (mn Ob Rv (-1) (rk (hasP Nw (Nw 96)) 100) (10 * t + a2)) k) + 1) rfl dX6_componentSize_71 ?_
              refine lv_istore_n (lv' := [(3, .int (nI ((cqN (mn Ob Rv (-1) (rk (hasP Nw (Nw 96)) 100)) (mn Ob Rv (-1) (rk (hasP Nw (Nw 96)) 100) (10 * t + a2)) k) + 1))), (0, .ref h0), (1, .int (nI t)), (2, .int (nI a2)), (4, .int (nI k))]) hx hb dX6_componentSize_72 rfl hl (by decide) rfl (fun ls hl => ?_)
              refine lv_iinc (v := nI (k + 1)) (lv' := [(4, .int (nI (k + 1))), (3, .int (nI ((cqN (mn Ob Rv (-1) (rk (hasP Nw (Nw 96)) 100)) (mn Ob Rv (-1) (rk (hasP Nw (Nw 96)) 100) (10 * t + a2)) k) + 1))), (0, .ref h0), (1, .int (nI t)), (2, .int (nI a2))]) hx hb dX6_componentSize_73 hl (k := 4) rfl (nI_1 _) (by decide) rfl (fun ls hl => ?_)
              refine lv_goto (tgt := 37) hx hb dX6_componentSize_76 (by decide) ?_
              exact ih_37 (k + 1) (by omega) (by omega) _ _ ls (hw) (lv_add (lv_add (lv_add (lv_add (lv_add (lv_nil hl) (lv_at hl 0 rfl)) (lv_eqv (lv_at hl 1 rfl) (zN (by simp [cqN, c_63])))) (lv_at hl 4 rfl)) (lv_at hl 3 rfl)) (lv_at hl 2 rfl))
      exact loop_37 _ 0 (by omega) (Nat.lt_succ_self _) _ _ ls (hw) (lv_add (lv_add (lv_add (lv_add (lv_add (lv_nil hl) (lv_at hl 0 rfl)) (lv_eqv (lv_at hl 1 rfl) (zN (by rfl)))) (lv_at hl 4 rfl)) (lv_at hl 3 rfl)) (lv_at hl 2 rfl))
    · refine lv_bipush (v := (-3)) hx hb dX6_componentSize_19 (by decide) ?_
      exact ret ((-3)) (Ob, Rv, Lo, Hi, mc, Nt) 21 ls H locs dX6_componentSize_21 (⟨Or.inr (Or.inl ⟨c_5, by rw [cl_nI ht (by decide), cl_nI ha (by decide)]; exact c_16, rfl⟩), hB⟩) (hw.perm [5, 6, 0, 1, 2, 3, 4] rfl (by decide))
  · refine lv_iconst (v := (-1)) hx hb dX6_componentSize_8 (by decide) ?_
    exact ret ((-1)) (Ob, Rv, Lo, Hi, mc, Nt) 9 ls H locs dX6_componentSize_9 (⟨Or.inl ⟨c_5, rfl⟩, hB⟩) (hw)

def rmX6_cycleRank : Room := { frames := 2, cells := 0, slots := 0, locals := 49 }
set_option maxHeartbeats 4000000 in
set_option maxRecDepth 100000 in
theorem c_X6_cycleRank (l : Launch) (E : ZE) (h0 aN aH aO aR aL aG aT aE aB aV : Nat) (ed mc : Nat) (Nw : Nat → Nat) (Ob Rv Lo Hi : Nat → Nat) (Nt : Nat → Nat) (hn : Nw 96 ≤ 24) (hF : ∀ j, j < 96 → Nw j < 10) (hW : ∀ k sd, k < 24 → sd < 2 → Nw (4 * k + 2 + sd) ≤ 5) (hB : Bd Ob ∧ Bd Rv ∧ Bd Lo ∧ Bd Hi) : ZMi l yX6_cycleRank cX6_cycleRank 1 (some .int) rmX6_cycleRank E [.ref h0] [(h0, ob 6 [.ref aN, .ref aH, .int (nI ed), .int (nI mc), .ref aO, .ref aR, .ref aL, .ref aG, .ref aT, .ref aE, .ref aB, .ref aV]), (aN, ia E 97 (nA Nw)), (aO, ia E 24 (nA Ob)), (aR, ia E 24 (nA Rv)), (aL, ia E 48 (nA Lo)), (aG, ia E 48 (nA Hi)), (aV, ia E 20 (nA Nt))] (S := (Nat → Nat) × (Nat → Nat) × (Nat → Nat) × (Nat → Nat)) (fun r u => r = nI (rk (hasP Nw (Nw 96)) 100) - nI (kn Nw 0 (Nw 96) 10) - nI (kn Nw 1 (Nw 96) 10) + nI (nc (mn u.1 u.2.1 (-1) (rk (hasP Nw (Nw 96)) 100)) (kd Nw) 20) ∧ FI Nw (Nw 96) 100 u.1 u.2.1 u.2.2.1 u.2.2.2 ∧ Bd u.1 ∧ Bd u.2.1 ∧ Bd u.2.2.1 ∧ Bd u.2.2.2) (fun u => [(h0, ob 6 [.ref aN, .ref aH, .int (nI ed), .int (nI (rk (hasP Nw (Nw 96)) 100)), .ref aO, .ref aR, .ref aL, .ref aG, .ref aT, .ref aE, .ref aB, .ref aV]), (aN, ia E 97 (nA Nw)), (aO, ia E 24 (nA u.1)), (aR, ia E 24 (nA u.2.1)), (aL, ia E 48 (nA u.2.2.1)), (aG, ia E 48 (nA u.2.2.2)), (aV, ia E 20 (nA (mn u.1 u.2.1 (-1) (rk (hasP Nw (Nw 96)) 100))))]) := by
  refine z_mi (by decide) (Nat.le_of_ble_eq_true rfl) ?_
  intro p e s m args below meth c A Q ls cx hin hw hl ret
  obtain ⟨hx, hb, hml, hown, hts, hK, hN, hA, hlk⟩ := id cx
  have hl : lv_has ls 1 [(0, .ref h0)] := hl
  refine lv_aload_n hx hb dX6_cycleRank_0 rfl (lv_at hl 0 rfl) ?_
  refine z_rv0 (wr := [(aV, ia E 20 (nA Nt))]) cx hw [0, 1, 2, 3, 4, 5] [6] rfl rfl (by decide) (by decide) rfl rfl (z_runV (As := []) (rest := []) cx hw rfl rfl [0, 1, 2, 3, 4, 5] rfl rfl (c_X6_finds l E h0 aN aH aO aR aL aG aT aE aB aV ed mc Nw Ob Rv Lo Hi (by omega) (hF) (hW) (hB) s.heap.size) mf_X6_finds wd_284 ⟨Nat.le_of_ble_eq_true rfl, Nat.le_of_ble_eq_true rfl⟩ hl (Nat.le_of_ble_eq_true rfl) dX6_cycleRank_1 ⟨Nat.le_of_ble_eq_true rfl, Nat.le_of_ble_eq_true rfl⟩) (fun u H locs hp hw => ?_)
  obtain ⟨Ob, Rv, Lo, Hi⟩ := u
  have hp_1 : FI Nw (Nw 96) 100 Ob Rv Lo Hi ∧ Bd Ob ∧ Bd Rv ∧ Bd Lo ∧ Bd Hi := hp
  have hw : ZW E A s [(aV, ia E 20 (nA Nt)), (h0, ob 6 [.ref aN, .ref aH, .int (nI ed), .int (nI (rk (hasP Nw (Nw 96)) 100)), .ref aO, .ref aR, .ref aL, .ref aG, .ref aT, .ref aE, .ref aB, .ref aV]), (aN, ia E 97 (nA Nw)), (aO, ia E 24 (nA Ob)), (aR, ia E 24 (nA Rv)), (aL, ia E 48 (nA Lo)), (aG, ia E 48 (nA Hi))] H locs := hw
  have hmm_ := rk_hasP Nw (Nw 96) 100
  refine lv_aload_n hx hb dX6_cycleRank_4 rfl (lv_at hl 0 rfl) ?_
  refine z_get cx hw 1 3 rfl rfl inlX6 (by decide) wd_283 rfl dX6_cycleRank_5 ?_
  refine lv_aload_n hx hb dX6_cycleRank_8 rfl (lv_at hl 0 rfl) ?_
  refine lv_iconst (v := nI 0) hx hb dX6_cycleRank_9 (by decide) ?_
  refine z_ri0 (wr := [(aV, ia E 20 (nA Nt)), (aO, ia E 24 (nA Ob)), (aR, ia E 24 (nA Rv)), (aL, ia E 48 (nA Lo)), (aG, ia E 48 (nA Hi))]) cx hw [1, 2] [0, 3, 4, 5, 6] rfl rfl (by decide) (by decide) rfl rfl (z_runV (As := [.int (nI 0)]) (rest := [.int (nI (rk (hasP Nw (Nw 96)) 100))]) cx hw rfl rfl [1, 2] rfl rfl (c_X6_known l E h0 aN aH aO aR aL aG aT aE aB aV ed (rk (hasP Nw (Nw 96)) 100) Nw 0 (by omega) (hF) (by omega) H.size) mf_X6_known wd_206 ⟨Nat.le_of_ble_eq_true rfl, Nat.le_of_ble_eq_true rfl⟩ hl (Nat.le_of_ble_eq_true rfl) dX6_cycleRank_10 ⟨Nat.le_of_ble_eq_true rfl, Nat.le_of_ble_eq_true rfl⟩) (fun r _ H locs hp hw => ?_)
  have hr_10 := hp
  have hr_10 : r = nI (kn Nw 0 (Nw 96) 10) := hr_10
  subst hr_10
  have hw : ZW E A s [(aV, ia E 20 (nA Nt)), (aO, ia E 24 (nA Ob)), (aR, ia E 24 (nA Rv)), (aL, ia E 48 (nA Lo)), (aG, ia E 48 (nA Hi)), (h0, ob 6 [.ref aN, .ref aH, .int (nI ed), .int (nI (rk (hasP Nw (Nw 96)) 100)), .ref aO, .ref aR, .ref aL, .ref aG, .ref aT, .ref aE, .ref aB, .ref aV]), (aN, ia E 97 (nA Nw))] H locs := hw
  refine lv_isub hx hb dX6_cycleRank_13 ?_
  refine lv_aload_n hx hb dX6_cycleRank_14 rfl (lv_at hl 0 rfl) ?_
  refine lv_iconst (v := nI 1) hx hb dX6_cycleRank_15 (by decide) ?_
  refine z_ri0 (wr := [(aV, ia E 20 (nA Nt)), (aO, ia E 24 (nA Ob)), (aR, ia E 24 (nA Rv)), (aL, ia E 48 (nA Lo)), (aG, ia E 48 (nA Hi))]) cx hw [5, 6] [0, 1, 2, 3, 4] rfl rfl (by decide) (by decide) rfl rfl (z_runV (As := [.int (nI 1)]) (rest := [.int ((nI (rk (hasP Nw (Nw 96)) 100)) - (nI (kn Nw 0 (Nw 96) 10)))]) cx hw rfl rfl [5, 6] rfl rfl (c_X6_known l E h0 aN aH aO aR aL aG aT aE aB aV ed (rk (hasP Nw (Nw 96)) 100) Nw 1 (by omega) (hF) (by omega) H.size) mf_X6_known wd_206 ⟨Nat.le_of_ble_eq_true rfl, Nat.le_of_ble_eq_true rfl⟩ hl (Nat.le_of_ble_eq_true rfl) dX6_cycleRank_16 ⟨Nat.le_of_ble_eq_true rfl, Nat.le_of_ble_eq_true rfl⟩) (fun r _ H locs hp hw => ?_)
  have hr_16 := hp
  have hr_16 : r = nI (kn Nw 1 (Nw 96) 10) := hr_16
  subst hr_16
  have hw : ZW E A s [(aV, ia E 20 (nA Nt)), (aO, ia E 24 (nA Ob)), (aR, ia E 24 (nA Rv)), (aL, ia E 48 (nA Lo)), (aG, ia E 48 (nA Hi)), (h0, ob 6 [.ref aN, .ref aH, .int (nI ed), .int (nI (rk (hasP Nw (Nw 96)) 100)), .ref aO, .ref aR, .ref aL, .ref aG, .ref aT, .ref aE, .ref aB, .ref aV]), (aN, ia E 97 (nA Nw))] H locs := hw
  refine lv_isub hx hb dX6_cycleRank_19 ?_
  refine lv_aload_n hx hb dX6_cycleRank_20 rfl (lv_at hl 0 rfl) ?_
  refine lv_iconst (v := (-1)) hx hb dX6_cycleRank_21 (by decide) ?_
  refine z_ri0 (wr := []) cx hw [5, 6, 1, 2, 3, 4, 0] [] rfl rfl (by decide) (by decide) rfl rfl (z_runV (As := [.int ((-1))]) (rest := [.int (((nI (rk (hasP Nw (Nw 96)) 100)) - (nI (kn Nw 0 (Nw 96) 10))) - (nI (kn Nw 1 (Nw 96) 10)))]) cx hw rfl rfl [5, 6, 1, 2, 3, 4, 0] rfl rfl (c_X6_nets l E h0 aN aH aO aR aL aG aT aE aB aV ed (rk (hasP Nw (Nw 96)) 100) Nw Ob Rv Lo Hi Nt (-1) (by omega) (hF) (by omega) (hp_1.2) H.size) mf_X6_nets wd_337 ⟨Nat.le_of_ble_eq_true rfl, Nat.le_of_ble_eq_true rfl⟩ hl (Nat.le_of_ble_eq_true rfl) dX6_cycleRank_22 ⟨Nat.le_of_ble_eq_true rfl, Nat.le_of_ble_eq_true rfl⟩) (fun r _ H locs hp hw => ?_)
  have hr_22 := hp
  have hr_22 : r = nI (nc (mn Ob Rv (-1) (rk (hasP Nw (Nw 96)) 100)) (kd Nw) 20) := hr_22
  subst hr_22
  have hw : ZW E A s [(h0, ob 6 [.ref aN, .ref aH, .int (nI ed), .int (nI (rk (hasP Nw (Nw 96)) 100)), .ref aO, .ref aR, .ref aL, .ref aG, .ref aT, .ref aE, .ref aB, .ref aV]), (aN, ia E 97 (nA Nw)), (aO, ia E 24 (nA Ob)), (aR, ia E 24 (nA Rv)), (aL, ia E 48 (nA Lo)), (aG, ia E 48 (nA Hi)), (aV, ia E 20 (nA (mn Ob Rv (-1) (rk (hasP Nw (Nw 96)) 100))))] H locs := hw
  refine lv_iadd hx hb dX6_cycleRank_25 ?_
  exact ret ((((nI (rk (hasP Nw (Nw 96)) 100)) - (nI (kn Nw 0 (Nw 96) 10))) - (nI (kn Nw 1 (Nw 96) 10))) + (nI (nc (mn Ob Rv (-1) (rk (hasP Nw (Nw 96)) 100)) (kd Nw) 20))) (Ob, Rv, Lo, Hi) 26 ls H locs dX6_cycleRank_26 (⟨by rfl, hp_1⟩) (hw)

def rmX6_bridgeCount : Room := { frames := 2, cells := 0, slots := 0, locals := 49 }
set_option maxHeartbeats 4000000 in
set_option maxRecDepth 100000 in
theorem c_X6_bridgeCount (l : Launch) (E : ZE) (h0 aN aH aO aR aL aG aT aE aB aV : Nat) (ed mc : Nat) (Nw : Nat → Nat) (Ob Rv Lo Hi : Nat → Nat) (Nt : Nat → Nat) (hn : Nw 96 ≤ 24) (hF : ∀ j, j < 96 → Nw j < 10) (hW : ∀ k sd, k < 24 → sd < 2 → Nw (4 * k + 2 + sd) ≤ 5) (hB : Bd Ob ∧ Bd Rv ∧ Bd Lo ∧ Bd Hi) : ZMi l yX6_bridgeCount cX6_bridgeCount 4 (some .int) rmX6_bridgeCount E [.ref h0] [(h0, ob 6 [.ref aN, .ref aH, .int (nI ed), .int (nI mc), .ref aO, .ref aR, .ref aL, .ref aG, .ref aT, .ref aE, .ref aB, .ref aV]), (aN, ia E 97 (nA Nw)), (aO, ia E 24 (nA Ob)), (aR, ia E 24 (nA Rv)), (aL, ia E 48 (nA Lo)), (aG, ia E 48 (nA Hi)), (aV, ia E 20 (nA Nt))] (S := (Nat → Nat) × (Nat → Nat) × (Nat → Nat) × (Nat → Nat) × (Nat → Nat)) (fun r u => r = nI (bcM u.1 u.2.1 (kd Nw) (rk (hasP Nw (Nw 96)) 100) (rk (hasP Nw (Nw 96)) 100)) ∧ FI Nw (Nw 96) 100 u.1 u.2.1 u.2.2.1 u.2.2.2.1 ∧ Bd u.1 ∧ Bd u.2.1 ∧ Bd u.2.2.1 ∧ Bd u.2.2.2.1) (fun u => [(h0, ob 6 [.ref aN, .ref aH, .int (nI ed), .int (nI (rk (hasP Nw (Nw 96)) 100)), .ref aO, .ref aR, .ref aL, .ref aG, .ref aT, .ref aE, .ref aB, .ref aV]), (aN, ia E 97 (nA Nw)), (aO, ia E 24 (nA u.1)), (aR, ia E 24 (nA u.2.1)), (aL, ia E 48 (nA u.2.2.1)), (aG, ia E 48 (nA u.2.2.2.1)), (aV, ia E 20 (nA u.2.2.2.2))]) := by
  refine z_mi (by decide) (Nat.le_of_ble_eq_true rfl) ?_
  intro p e s m args below meth c A Q ls cx hin hw hl ret
  obtain ⟨hx, hb, hml, hown, hts, hK, hN, hA, hlk⟩ := id cx
  have hl : lv_has ls 4 [(0, .ref h0)] := hl
  refine lv_aload_n hx hb dX6_bridgeCount_0 rfl (lv_at hl 0 rfl) ?_
  refine z_rv0 (wr := [(aV, ia E 20 (nA Nt))]) cx hw [0, 1, 2, 3, 4, 5] [6] rfl rfl (by decide) (by decide) rfl rfl (z_runV (As := []) (rest := []) cx hw rfl rfl [0, 1, 2, 3, 4, 5] rfl rfl (c_X6_finds l E h0 aN aH aO aR aL aG aT aE aB aV ed mc Nw Ob Rv Lo Hi (by omega) (hF) (hW) (hB) s.heap.size) mf_X6_finds wd_284 ⟨Nat.le_of_ble_eq_true rfl, Nat.le_of_ble_eq_true rfl⟩ hl (Nat.le_of_ble_eq_true rfl) dX6_bridgeCount_1 ⟨Nat.le_of_ble_eq_true rfl, Nat.le_of_ble_eq_true rfl⟩) (fun u H locs hp hw => ?_)
  obtain ⟨Ob, Rv, Lo, Hi⟩ := u
  have hp_1 : FI Nw (Nw 96) 100 Ob Rv Lo Hi ∧ Bd Ob ∧ Bd Rv ∧ Bd Lo ∧ Bd Hi := hp
  have hw : ZW E A s [(aV, ia E 20 (nA Nt)), (h0, ob 6 [.ref aN, .ref aH, .int (nI ed), .int (nI (rk (hasP Nw (Nw 96)) 100)), .ref aO, .ref aR, .ref aL, .ref aG, .ref aT, .ref aE, .ref aB, .ref aV]), (aN, ia E 97 (nA Nw)), (aO, ia E 24 (nA Ob)), (aR, ia E 24 (nA Rv)), (aL, ia E 48 (nA Lo)), (aG, ia E 48 (nA Hi))] H locs := hw
  have hmm_ := rk_hasP Nw (Nw 96) 100
  refine lv_aload_n hx hb dX6_bridgeCount_4 rfl (lv_at hl 0 rfl) ?_
  refine lv_iconst (v := (-1)) hx hb dX6_bridgeCount_5 (by decide) ?_
  refine z_ri0 (wr := []) cx hw [1, 2, 3, 4, 5, 6, 0] [] rfl rfl (by decide) (by decide) rfl rfl (z_runV (As := [.int ((-1))]) (rest := []) cx hw rfl rfl [1, 2, 3, 4, 5, 6, 0] rfl rfl (c_X6_nets l E h0 aN aH aO aR aL aG aT aE aB aV ed (rk (hasP Nw (Nw 96)) 100) Nw Ob Rv Lo Hi Nt (-1) (by omega) (hF) (by omega) (hp_1.2) H.size) mf_X6_nets wd_337 ⟨Nat.le_of_ble_eq_true rfl, Nat.le_of_ble_eq_true rfl⟩ hl (Nat.le_of_ble_eq_true rfl) dX6_bridgeCount_6 ⟨Nat.le_of_ble_eq_true rfl, Nat.le_of_ble_eq_true rfl⟩) (fun r _ H locs hp hw => ?_)
  have hr_6 := hp
  have hr_6 : r = nI (nc (mn Ob Rv (-1) (rk (hasP Nw (Nw 96)) 100)) (kd Nw) 20) := hr_6
  subst hr_6
  have hw : ZW E A s [(h0, ob 6 [.ref aN, .ref aH, .int (nI ed), .int (nI (rk (hasP Nw (Nw 96)) 100)), .ref aO, .ref aR, .ref aL, .ref aG, .ref aT, .ref aE, .ref aB, .ref aV]), (aN, ia E 97 (nA Nw)), (aO, ia E 24 (nA Ob)), (aR, ia E 24 (nA Rv)), (aL, ia E 48 (nA Lo)), (aG, ia E 48 (nA Hi)), (aV, ia E 20 (nA (mn Ob Rv (-1) (rk (hasP Nw (Nw 96)) 100))))] H locs := hw
  refine lv_istore_n (lv' := [(1, .int (nI (nc (mn Ob Rv (-1) (rk (hasP Nw (Nw 96)) 100)) (kd Nw) 20))), (0, .ref h0)]) hx hb dX6_bridgeCount_9 rfl hl (by decide) rfl (fun ls hl => ?_)
  refine lv_iconst (v := nI 0) hx hb dX6_bridgeCount_10 (by decide) ?_
  refine lv_istore_n (lv' := [(2, .int (nI 0)), (1, .int (nI (nc (mn Ob Rv (-1) (rk (hasP Nw (Nw 96)) 100)) (kd Nw) 20))), (0, .ref h0)]) hx hb dX6_bridgeCount_11 rfl hl (by decide) rfl (fun ls hl => ?_)
  refine lv_iconst (v := nI 0) hx hb dX6_bridgeCount_12 (by decide) ?_
  refine lv_istore_n (lv' := [(3, .int (nI 0)), (2, .int (nI 0)), (1, .int (nI (nc (mn Ob Rv (-1) (rk (hasP Nw (Nw 96)) 100)) (kd Nw) 20))), (0, .ref h0)]) hx hb dX6_bridgeCount_13 rfl hl (by decide) rfl (fun ls hl => ?_)
  have loop_14 : ∀ (fuel : Nat) (k : Nat) (Nt : Nat → Nat) (hk : k ≤ rk (hasP Nw (Nw 96)) 100) (hm : rk (hasP Nw (Nw 96)) 100 - k < fuel) (H : Heap) (locs : List Loc) (ls : Array Slot), ZW E A s [(h0, ob 6 [.ref aN, .ref aH, .int (nI ed), .int (nI (rk (hasP Nw (Nw 96)) 100)), .ref aO, .ref aR, .ref aL, .ref aG, .ref aT, .ref aE, .ref aB, .ref aV]), (aN, ia E 97 (nA Nw)), (aO, ia E 24 (nA Ob)), (aR, ia E 24 (nA Rv)), (aL, ia E 48 (nA Lo)), (aG, ia E 48 (nA Hi)), (aV, ia E 20 (nA Nt))] H locs → lv_has ls 4 [(0, .ref h0), (1, .int (nI (nc (mn Ob Rv (-1) (rk (hasP Nw (Nw 96)) 100)) (kd Nw) 20))), (2, .int (nI (bcM Ob Rv (kd Nw) (rk (hasP Nw (Nw 96)) 100) k))), (3, .int (nI k))] → W p l e rmX6_bridgeCount s m args below meth c H locs 0 0 Q (F0 m 14 ls []) := by
    intro fuel
    induction fuel with
    | zero => intro k Nt hk hm; exact absurd hm (Nat.not_lt_zero _)
    | succ fuel ih_14 =>
      intro k Nt hk hm H locs ls hw hl
      refine lv_iload_n hx hb dX6_bridgeCount_14 rfl (lv_at hl 3 rfl) ?_
      refine lv_aload_n hx hb dX6_bridgeCount_15 rfl (lv_at hl 0 rfl) ?_
      refine z_get cx hw 0 3 rfl rfl inlX6 (by decide) wd_283 rfl dX6_bridgeCount_16 ?_
      refine z_icmp_ge hx hb (by omega) (by omega) 45 dX6_bridgeCount_19 (by decide) (fun c_19 => ?_) (fun c_19 => ?_)
      · refine lv_iload_n hx hb dX6_bridgeCount_45 rfl (lv_at hl 2 rfl) ?_
        have e_ : k = rk (hasP Nw (Nw 96)) 100 := by omega
        exact ret (nI (bcM Ob Rv (kd Nw) (rk (hasP Nw (Nw 96)) 100) k)) (Ob, Rv, Lo, Hi, Nt) 46 ls H locs dX6_bridgeCount_46 (⟨congrArg nI (by rw [e_]), hp_1⟩) (hw)
      · refine lv_iload_n hx hb dX6_bridgeCount_22 rfl (lv_at hl 2 rfl) ?_
        refine lv_aload_n hx hb dX6_bridgeCount_23 rfl (lv_at hl 0 rfl) ?_
        refine lv_iload_n hx hb dX6_bridgeCount_24 rfl (lv_at hl 3 rfl) ?_
        refine z_ri0 (wr := []) cx hw [0, 1, 2, 3, 4, 5, 6] [] rfl rfl (by decide) (by decide) rfl rfl (z_runV (As := [.int (nI k)]) (rest := [.int (nI (bcM Ob Rv (kd Nw) (rk (hasP Nw (Nw 96)) 100) k))]) cx hw rfl rfl [0, 1, 2, 3, 4, 5, 6] rfl rfl (c_X6_nets l E h0 aN aH aO aR aL aG aT aE aB aV ed (rk (hasP Nw (Nw 96)) 100) Nw Ob Rv Lo Hi Nt (nI k) (by omega) (hF) (by omega) (hp_1.2) H.size) mf_X6_nets wd_337 ⟨Nat.le_of_ble_eq_true rfl, Nat.le_of_ble_eq_true rfl⟩ hl (Nat.le_of_ble_eq_true rfl) dX6_bridgeCount_25 ⟨Nat.le_of_ble_eq_true rfl, Nat.le_of_ble_eq_true rfl⟩) (fun r _ H locs hp hw => ?_)
        have hr_25 := hp
        have hr_25 : r = nI (nc (mn Ob Rv (nI k) (rk (hasP Nw (Nw 96)) 100)) (kd Nw) 20) := hr_25
        subst hr_25
        have hw : ZW E A s [(h0, ob 6 [.ref aN, .ref aH, .int (nI ed), .int (nI (rk (hasP Nw (Nw 96)) 100)), .ref aO, .ref aR, .ref aL, .ref aG, .ref aT, .ref aE, .ref aB, .ref aV]), (aN, ia E 97 (nA Nw)), (aO, ia E 24 (nA Ob)), (aR, ia E 24 (nA Rv)), (aL, ia E 48 (nA Lo)), (aG, ia E 48 (nA Hi)), (aV, ia E 20 (nA (mn Ob Rv (nI k) (rk (hasP Nw (Nw 96)) 100))))] H locs := hw
        refine lv_iload_n hx hb dX6_bridgeCount_28 rfl (lv_at hl 1 rfl) ?_
        have g1_ := nc_le (mn Ob Rv (-1) (rk (hasP Nw (Nw 96)) 100)) (kd Nw) 20
        have g2_ := nc_le (mn Ob Rv (nI k) (rk (hasP Nw (Nw 96)) 100)) (kd Nw) 20
        refine z_icmp_le hx hb (by omega) (by omega) 36 dX6_bridgeCount_29 (by decide) (fun c_29 => ?_) (fun c_29 => ?_)
        · refine lv_iconst (v := nI 0) hx hb dX6_bridgeCount_36 (by decide) ?_
          refine z_iadd hx hb (bcM Ob Rv (kd Nw) (rk (hasP Nw (Nw 96)) 100) k) rfl dX6_bridgeCount_37 ?_
          refine lv_istore_n (lv' := [(2, .int (nI (bcM Ob Rv (kd Nw) (rk (hasP Nw (Nw 96)) 100) k))), (0, .ref h0), (1, .int (nI (nc (mn Ob Rv (-1) (rk (hasP Nw (Nw 96)) 100)) (kd Nw) 20))), (3, .int (nI k))]) hx hb dX6_bridgeCount_38 rfl hl (by decide) rfl (fun ls hl => ?_)
          refine lv_iinc (v := nI (k + 1)) (lv' := [(3, .int (nI (k + 1))), (2, .int (nI (bcM Ob Rv (kd Nw) (rk (hasP Nw (Nw 96)) 100) k))), (0, .ref h0), (1, .int (nI (nc (mn Ob Rv (-1) (rk (hasP Nw (Nw 96)) 100)) (kd Nw) 20)))]) hx hb dX6_bridgeCount_39 hl (k := 3) rfl (nI_1 _) (by decide) rfl (fun ls hl => ?_)
          refine lv_goto (tgt := 14) hx hb dX6_bridgeCount_42 (by decide) ?_
          exact ih_14 (k + 1) (mn Ob Rv (nI k) (rk (hasP Nw (Nw 96)) 100)) (by omega) (by omega) _ _ ls (hw) (lv_add (lv_add (lv_add (lv_add (lv_nil hl) (lv_at hl 0 rfl)) (lv_eqv (lv_at hl 1 rfl) (zN (by rw [bcM, if_neg (by simp [bM]; omega)]; rfl)))) (lv_at hl 3 rfl)) (lv_at hl 2 rfl))
        · refine lv_iconst (v := nI 1) hx hb dX6_bridgeCount_32 (by decide) ?_
          refine lv_goto (tgt := 37) hx hb dX6_bridgeCount_33 (by decide) ?_
          refine z_iadd hx hb ((bcM Ob Rv (kd Nw) (rk (hasP Nw (Nw 96)) 100) k) + 1) rfl dX6_bridgeCount_37 ?_
          refine lv_istore_n (lv' := [(2, .int (nI ((bcM Ob Rv (kd Nw) (rk (hasP Nw (Nw 96)) 100) k) + 1))), (0, .ref h0), (1, .int (nI (nc (mn Ob Rv (-1) (rk (hasP Nw (Nw 96)) 100)) (kd Nw) 20))), (3, .int (nI k))]) hx hb dX6_bridgeCount_38 rfl hl (by decide) rfl (fun ls hl => ?_)
          refine lv_iinc (v := nI (k + 1)) (lv' := [(3, .int (nI (k + 1))), (2, .int (nI ((bcM Ob Rv (kd Nw) (rk (hasP Nw (Nw 96)) 100) k) + 1))), (0, .ref h0), (1, .int (nI (nc (mn Ob Rv (-1) (rk (hasP Nw (Nw 96)) 100)) (kd Nw) 20)))]) hx hb dX6_bridgeCount_39 hl (k := 3) rfl (nI_1 _) (by decide) rfl (fun ls hl => ?_)
          refine lv_goto (tgt := 14) hx hb dX6_bridgeCount_42 (by decide) ?_
          exact ih_14 (k + 1) (mn Ob Rv (nI k) (rk (hasP Nw (Nw 96)) 100)) (by omega) (by omega) _ _ ls (hw) (lv_add (lv_add (lv_add (lv_add (lv_nil hl) (lv_at hl 0 rfl)) (lv_eqv (lv_at hl 1 rfl) (zN (by rw [bcM, if_pos (by simp [bM]; omega)])))) (lv_at hl 3 rfl)) (lv_at hl 2 rfl))
  exact loop_14 _ 0 (mn Ob Rv (-1) (rk (hasP Nw (Nw 96)) 100)) (by omega) (Nat.lt_succ_self _) _ _ ls (hw) (lv_add (lv_add (lv_add (lv_add (lv_nil hl) (lv_at hl 0 rfl)) (lv_eqv (lv_at hl 1 rfl) (zN (by rfl)))) (lv_at hl 2 rfl)) (lv_at hl 3 rfl))

def rmX6_isBridge : Room := { frames := 2, cells := 0, slots := 0, locals := 49 }
set_option maxHeartbeats 4000000 in
set_option maxRecDepth 100000 in
theorem c_X6_isBridge (l : Launch) (E : ZE) (h0 aN aH aO aR aL aG aT aE aB aV : Nat) (ed mc : Nat) (Nw : Nat → Nat) (Ob Rv Lo Hi : Nat → Nat) (Nt : Nat → Nat) (x : Int32) (hn : Nw 96 ≤ 24) (hF : ∀ j, j < 96 → Nw j < 10) (hW : ∀ k sd, k < 24 → sd < 2 → Nw (4 * k + 2 + sd) ≤ 5) (hB : Bd Ob ∧ Bd Rv ∧ Bd Lo ∧ Bd Hi) : ZMi l yX6_isBridge cX6_isBridge 2 (some .int) rmX6_isBridge E [.ref h0, .int x] [(h0, ob 6 [.ref aN, .ref aH, .int (nI ed), .int (nI mc), .ref aO, .ref aR, .ref aL, .ref aG, .ref aT, .ref aE, .ref aB, .ref aV]), (aN, ia E 97 (nA Nw)), (aO, ia E 24 (nA Ob)), (aR, ia E 24 (nA Rv)), (aL, ia E 48 (nA Lo)), (aG, ia E 48 (nA Hi)), (aV, ia E 20 (nA Nt))] (S := (Nat → Nat) × (Nat → Nat) × (Nat → Nat) × (Nat → Nat) × Nat × (Nat → Nat)) (fun r u => (x < 0 ∧ r = -1 ∨ 0 ≤ x ∧ FI Nw (Nw 96) 100 u.1 u.2.1 u.2.2.1 u.2.2.2.1 ∧ r = (if inR x (rk (hasP Nw (Nw 96)) 100) = true then bI (bM u.1 u.2.1 (kd Nw) (rk (hasP Nw (Nw 96)) 100) (cl x)) else if x < 0 then (-1) else (-3))) ∧ Bd u.1 ∧ Bd u.2.1 ∧ Bd u.2.2.1 ∧ Bd u.2.2.2.1) (fun u => [(h0, ob 6 [.ref aN, .ref aH, .int (nI ed), .int (nI u.2.2.2.2.1), .ref aO, .ref aR, .ref aL, .ref aG, .ref aT, .ref aE, .ref aB, .ref aV]), (aN, ia E 97 (nA Nw)), (aO, ia E 24 (nA u.1)), (aR, ia E 24 (nA u.2.1)), (aL, ia E 48 (nA u.2.2.1)), (aG, ia E 48 (nA u.2.2.2.1)), (aV, ia E 20 (nA u.2.2.2.2.2))]) := by
  refine z_mi (by decide) (Nat.le_of_ble_eq_true rfl) ?_
  intro p e s m args below meth c A Q ls cx hin hw hl ret
  obtain ⟨hx, hb, hml, hown, hts, hK, hN, hA, hlk⟩ := id cx
  have hl : lv_has ls 2 [(0, .ref h0), (1, .int x)] := hl
  refine lv_iload_n hx hb dX6_isBridge_0 rfl (lv_at hl 1 rfl) ?_
  refine lv_if_ge (tgt := 6) hx hb dX6_isBridge_1 (by decide) (fun c_1 => ?_) (fun c_1 => ?_)
  · refine lv_aload_n hx hb dX6_isBridge_6 rfl (lv_at hl 0 rfl) ?_
    refine z_rv0 (wr := [(aV, ia E 20 (nA Nt))]) cx hw [0, 1, 2, 3, 4, 5] [6] rfl rfl (by decide) (by decide) rfl rfl (z_runV (As := []) (rest := []) cx hw rfl rfl [0, 1, 2, 3, 4, 5] rfl rfl (c_X6_finds l E h0 aN aH aO aR aL aG aT aE aB aV ed mc Nw Ob Rv Lo Hi (by omega) (hF) (hW) (hB) s.heap.size) mf_X6_finds wd_284 ⟨Nat.le_of_ble_eq_true rfl, Nat.le_of_ble_eq_true rfl⟩ hl (Nat.le_of_ble_eq_true rfl) dX6_isBridge_7 ⟨Nat.le_of_ble_eq_true rfl, Nat.le_of_ble_eq_true rfl⟩) (fun u H locs hp hw => ?_)
    obtain ⟨Ob, Rv, Lo, Hi⟩ := u
    have hp_7 : FI Nw (Nw 96) 100 Ob Rv Lo Hi ∧ Bd Ob ∧ Bd Rv ∧ Bd Lo ∧ Bd Hi := hp
    have hw : ZW E A s [(aV, ia E 20 (nA Nt)), (h0, ob 6 [.ref aN, .ref aH, .int (nI ed), .int (nI (rk (hasP Nw (Nw 96)) 100)), .ref aO, .ref aR, .ref aL, .ref aG, .ref aT, .ref aE, .ref aB, .ref aV]), (aN, ia E 97 (nA Nw)), (aO, ia E 24 (nA Ob)), (aR, ia E 24 (nA Rv)), (aL, ia E 48 (nA Lo)), (aG, ia E 48 (nA Hi))] H locs := hw
    have hmm_ := rk_hasP Nw (Nw 96) 100
    refine lv_iload_n hx hb dX6_isBridge_10 rfl (lv_at hl 1 rfl) ?_
    refine lv_aload_n hx hb dX6_isBridge_11 rfl (lv_at hl 0 rfl) ?_
    refine z_get cx hw 1 3 rfl rfl inlX6 (by decide) wd_283 rfl dX6_isBridge_12 ?_
    refine lv_icmp_lt (tgt := 23) hx hb dX6_isBridge_15 (by decide) (fun c_15 => ?_) (fun c_15 => ?_)
    · have hI_ : inR x (rk (hasP Nw (Nw 96)) 100) = true := inR_in (by omega) (Int32.not_lt.mpr c_1) (Int32.not_le.mpr c_15)
      obtain ⟨k, hk, rfl⟩ := inR_get hI_ (by omega)
      refine lv_aload_n hx hb dX6_isBridge_23 rfl (lv_at hl 0 rfl) ?_
      refine lv_iload_n hx hb dX6_isBridge_24 rfl (lv_at hl 1 rfl) ?_
      refine z_ri0 (wr := []) cx hw [1, 2, 3, 4, 5, 6, 0] [] rfl rfl (by decide) (by decide) rfl rfl (z_runV (As := [.int (nI k)]) (rest := []) cx hw rfl rfl [1, 2, 3, 4, 5, 6, 0] rfl rfl (c_X6_nets l E h0 aN aH aO aR aL aG aT aE aB aV ed (rk (hasP Nw (Nw 96)) 100) Nw Ob Rv Lo Hi Nt (nI k) (by omega) (hF) (by omega) (hp_7.2) H.size) mf_X6_nets wd_337 ⟨Nat.le_of_ble_eq_true rfl, Nat.le_of_ble_eq_true rfl⟩ hl (Nat.le_of_ble_eq_true rfl) dX6_isBridge_25 ⟨Nat.le_of_ble_eq_true rfl, Nat.le_of_ble_eq_true rfl⟩) (fun r _ H locs hp hw => ?_)
      have hr_25 := hp
      have hr_25 : r = nI (nc (mn Ob Rv (nI k) (rk (hasP Nw (Nw 96)) 100)) (kd Nw) 20) := hr_25
      subst hr_25
      have hw : ZW E A s [(h0, ob 6 [.ref aN, .ref aH, .int (nI ed), .int (nI (rk (hasP Nw (Nw 96)) 100)), .ref aO, .ref aR, .ref aL, .ref aG, .ref aT, .ref aE, .ref aB, .ref aV]), (aN, ia E 97 (nA Nw)), (aO, ia E 24 (nA Ob)), (aR, ia E 24 (nA Rv)), (aL, ia E 48 (nA Lo)), (aG, ia E 48 (nA Hi)), (aV, ia E 20 (nA (mn Ob Rv (nI k) (rk (hasP Nw (Nw 96)) 100))))] H locs := hw
      refine lv_aload_n hx hb dX6_isBridge_28 rfl (lv_at hl 0 rfl) ?_
      refine lv_iconst (v := (-1)) hx hb dX6_isBridge_29 (by decide) ?_
      refine z_ri0 (wr := []) cx hw [0, 1, 2, 3, 4, 5, 6] [] rfl rfl (by decide) (by decide) rfl rfl (z_runV (As := [.int ((-1))]) (rest := [.int (nI (nc (mn Ob Rv (nI k) (rk (hasP Nw (Nw 96)) 100)) (kd Nw) 20))]) cx hw rfl rfl [0, 1, 2, 3, 4, 5, 6] rfl rfl (c_X6_nets l E h0 aN aH aO aR aL aG aT aE aB aV ed (rk (hasP Nw (Nw 96)) 100) Nw Ob Rv Lo Hi (mn Ob Rv (nI k) (rk (hasP Nw (Nw 96)) 100)) (-1) (by omega) (hF) (by omega) (hp_7.2) H.size) mf_X6_nets wd_337 ⟨Nat.le_of_ble_eq_true rfl, Nat.le_of_ble_eq_true rfl⟩ hl (Nat.le_of_ble_eq_true rfl) dX6_isBridge_30 ⟨Nat.le_of_ble_eq_true rfl, Nat.le_of_ble_eq_true rfl⟩) (fun r _ H locs hp hw => ?_)
      have hr_30 := hp
      have hr_30 : r = nI (nc (mn Ob Rv (-1) (rk (hasP Nw (Nw 96)) 100)) (kd Nw) 20) := hr_30
      subst hr_30
      have hw : ZW E A s [(h0, ob 6 [.ref aN, .ref aH, .int (nI ed), .int (nI (rk (hasP Nw (Nw 96)) 100)), .ref aO, .ref aR, .ref aL, .ref aG, .ref aT, .ref aE, .ref aB, .ref aV]), (aN, ia E 97 (nA Nw)), (aO, ia E 24 (nA Ob)), (aR, ia E 24 (nA Rv)), (aL, ia E 48 (nA Lo)), (aG, ia E 48 (nA Hi)), (aV, ia E 20 (nA (mn Ob Rv (-1) (rk (hasP Nw (Nw 96)) 100))))] H locs := hw
      have g1_ := nc_le (mn Ob Rv (-1) (rk (hasP Nw (Nw 96)) 100)) (kd Nw) 20
      have g2_ := nc_le (mn Ob Rv (nI k) (rk (hasP Nw (Nw 96)) 100)) (kd Nw) 20
      refine z_icmp_le hx hb (by omega) (by omega) 40 dX6_isBridge_33 (by decide) (fun c_33 => ?_) (fun c_33 => ?_)
      · refine lv_iconst (v := nI 0) hx hb dX6_isBridge_40 (by decide) ?_
        have hb_ : bM Ob Rv (kd Nw) (rk (hasP Nw (Nw 96)) 100) k = false := by simp [bM]; omega
        exact ret (nI 0) (Ob, Rv, Lo, Hi, rk (hasP Nw (Nw 96)) 100, mn Ob Rv (-1) (rk (hasP Nw (Nw 96)) 100)) 41 ls H locs dX6_isBridge_41 (⟨Or.inr ⟨c_1, hp_7.1, by rw [if_pos hI_, cl_nI hk (by omega), hb_]; rfl⟩, hp_7.2⟩) (hw)
      · refine lv_iconst (v := nI 1) hx hb dX6_isBridge_36 (by decide) ?_
        refine lv_goto (tgt := 41) hx hb dX6_isBridge_37 (by decide) ?_
        have hb_ : bM Ob Rv (kd Nw) (rk (hasP Nw (Nw 96)) 100) k = true := by simp [bM]; omega
        exact ret (nI 1) (Ob, Rv, Lo, Hi, rk (hasP Nw (Nw 96)) 100, mn Ob Rv (-1) (rk (hasP Nw (Nw 96)) 100)) 41 ls H locs dX6_isBridge_41 (⟨Or.inr ⟨c_1, hp_7.1, by rw [if_pos hI_, cl_nI hk (by omega), hb_]; rfl⟩, hp_7.2⟩) (hw)
    · refine lv_bipush (v := (-3)) hx hb dX6_isBridge_18 (by decide) ?_
      refine lv_goto (tgt := 41) hx hb dX6_isBridge_20 (by decide) ?_
      have hE_ : inR x (rk (hasP Nw (Nw 96)) 100) = false := inR_ge (by omega) (Int32.not_lt.mp c_15)
      exact ret ((-3)) (Ob, Rv, Lo, Hi, rk (hasP Nw (Nw 96)) 100, Nt) 41 ls H locs dX6_isBridge_41 (⟨Or.inr ⟨c_1, hp_7.1, by rw [hE_, if_neg (by decide), if_neg (Int32.not_lt.mpr c_1)]⟩, hp_7.2⟩) (hw.perm [1, 2, 3, 4, 5, 6, 0] rfl (by decide))
  · refine lv_iconst (v := (-1)) hx hb dX6_isBridge_4 (by decide) ?_
    exact ret ((-1)) (Ob, Rv, Lo, Hi, mc, Nt) 5 ls s.heap [] dX6_isBridge_5 (⟨Or.inl ⟨Int32.not_le.mp c_1, rfl⟩, hB⟩) (hw)

def rmX6_isBy : Room := { frames := 0, cells := 0, slots := 0, locals := 0 }
set_option maxHeartbeats 4000000 in
set_option maxRecDepth 100000 in
theorem c_X6_isBy (l : Launch) (E : ZE) (h0 aN aH aO aR aL aG aT aE aB aV : Nat) (ed mc : Nat) (Lo Hi : Nat → Nat) (a b sd : Nat) (ha : a < 24) (hb2 : b < 24) (hs : sd < 2) (hL : Bd Lo) (hH : Bd Hi) : ZMi l yX6_isBy cX6_isBy 4 (some .boolean) rmX6_isBy E [.ref h0, .int (nI a), .int (nI b), .int (nI sd)] [(h0, ob 6 [.ref aN, .ref aH, .int (nI ed), .int (nI mc), .ref aO, .ref aR, .ref aL, .ref aG, .ref aT, .ref aE, .ref aB, .ref aV]), (aL, ia E 48 (nA Lo)), (aG, ia E 48 (nA Hi))] (S := Unit) (fun r _ => r = bI (byM Lo Hi a b sd)) (fun _ => [(h0, ob 6 [.ref aN, .ref aH, .int (nI ed), .int (nI mc), .ref aO, .ref aR, .ref aL, .ref aG, .ref aT, .ref aE, .ref aB, .ref aV]), (aL, ia E 48 (nA Lo)), (aG, ia E 48 (nA Hi))]) := by
  refine z_mz (by decide) (Nat.le_of_ble_eq_true rfl) ?_
  intro p e s m args below meth c A Q ls cx hin hw hl ret
  obtain ⟨hx, hb, hml, hown, hts, hK, hN, hA, hlk⟩ := id cx
  have hl : lv_has ls 4 [(0, .ref h0), (1, .int (nI a)), (2, .int (nI b)), (3, .int (nI sd))] := hl
  have b1_ := hL (24 * sd + a)
  have b2_ := hL (24 * sd + b)
  have b3_ := hH (24 * sd + a)
  have b4_ := hH (24 * sd + b)
  refine lv_aload_n hx hb dX6_isBy_0 rfl (lv_at hl 0 rfl) ?_
  refine z_get cx hw 0 7 rfl rfl inlX6 (by decide) wd_75 rfl dX6_isBy_1 ?_
  refine lv_bipush (v := nI 24) hx hb dX6_isBy_4 (by decide) ?_
  refine lv_iload_n hx hb dX6_isBy_6 rfl (lv_at hl 3 rfl) ?_
  refine z_imul hx hb (24 * sd) rfl dX6_isBy_7 ?_
  refine lv_iload_n hx hb dX6_isBy_8 rfl (lv_at hl 1 rfl) ?_
  refine z_iadd hx hb ((24 * sd) + a) rfl dX6_isBy_9 ?_
  refine z_aldN cx hw 2 rfl ((24 * sd) + a) rfl (by omega) (by decide) dX6_isBy_10 ?_
  refine lv_aload_n hx hb dX6_isBy_11 rfl (lv_at hl 0 rfl) ?_
  refine z_get cx hw 0 6 rfl rfl inlX6 (by decide) wd_74 rfl dX6_isBy_12 ?_
  refine lv_bipush (v := nI 24) hx hb dX6_isBy_15 (by decide) ?_
  refine lv_iload_n hx hb dX6_isBy_17 rfl (lv_at hl 3 rfl) ?_
  refine z_imul hx hb (24 * sd) rfl dX6_isBy_18 ?_
  refine lv_iload_n hx hb dX6_isBy_19 rfl (lv_at hl 2 rfl) ?_
  refine z_iadd hx hb ((24 * sd) + b) rfl dX6_isBy_20 ?_
  refine z_aldN cx hw 1 rfl ((24 * sd) + b) rfl (by omega) (by decide) dX6_isBy_21 ?_
  refine z_icmp_gt hx hb (by omega) (by omega) 54 dX6_isBy_22 (by decide) (fun c_22 => ?_) (fun c_22 => ?_)
  · refine lv_iconst (v := nI 0) hx hb dX6_isBy_54 (by decide) ?_
    exact ret false () 55 ls s.heap [] dX6_isBy_55 (congrArg bI (by exact (decide_eq_false (fun q => absurd q.1 (Nat.not_le.mpr c_22))).symm)) (hw)
  · refine lv_aload_n hx hb dX6_isBy_25 rfl (lv_at hl 0 rfl) ?_
    refine z_get cx hw 0 6 rfl rfl inlX6 (by decide) wd_74 rfl dX6_isBy_26 ?_
    refine lv_bipush (v := nI 24) hx hb dX6_isBy_29 (by decide) ?_
    refine lv_iload_n hx hb dX6_isBy_31 rfl (lv_at hl 3 rfl) ?_
    refine z_imul hx hb (24 * sd) rfl dX6_isBy_32 ?_
    refine lv_iload_n hx hb dX6_isBy_33 rfl (lv_at hl 1 rfl) ?_
    refine z_iadd hx hb ((24 * sd) + a) rfl dX6_isBy_34 ?_
    refine z_aldN cx hw 1 rfl ((24 * sd) + a) rfl (by omega) (by decide) dX6_isBy_35 ?_
    refine lv_aload_n hx hb dX6_isBy_36 rfl (lv_at hl 0 rfl) ?_
    refine z_get cx hw 0 7 rfl rfl inlX6 (by decide) wd_75 rfl dX6_isBy_37 ?_
    refine lv_bipush (v := nI 24) hx hb dX6_isBy_40 (by decide) ?_
    refine lv_iload_n hx hb dX6_isBy_42 rfl (lv_at hl 3 rfl) ?_
    refine z_imul hx hb (24 * sd) rfl dX6_isBy_43 ?_
    refine lv_iload_n hx hb dX6_isBy_44 rfl (lv_at hl 2 rfl) ?_
    refine z_iadd hx hb ((24 * sd) + b) rfl dX6_isBy_45 ?_
    refine z_aldN cx hw 2 rfl ((24 * sd) + b) rfl (by omega) (by decide) dX6_isBy_46 ?_
    refine z_icmp_ge hx hb (by omega) (by omega) 54 dX6_isBy_47 (by decide) (fun c_47 => ?_) (fun c_47 => ?_)
    · refine lv_iconst (v := nI 0) hx hb dX6_isBy_54 (by decide) ?_
      exact ret false () 55 ls s.heap [] dX6_isBy_55 (congrArg bI (by exact (decide_eq_false (fun q => absurd q.2 (Nat.not_lt.mpr c_47))).symm)) (hw)
    · refine lv_iconst (v := nI 1) hx hb dX6_isBy_50 (by decide) ?_
      refine lv_goto (tgt := 55) hx hb dX6_isBy_51 (by decide) ?_
      exact ret true () 55 ls s.heap [] dX6_isBy_55 (congrArg bI (by exact (decide_eq_true ⟨c_22, c_47⟩).symm)) (hw)

def rmX6_isEarlier : Room := { frames := 1, cells := 0, slots := 0, locals := 23 }
set_option maxHeartbeats 4000000 in
set_option maxRecDepth 100000 in
theorem c_X6_isEarlier (l : Launch) (E : ZE) (h0 aN aH aO aR aL aG aT aE aB aV : Nat) (ed mc : Nat) (Ob Rv Lo Hi : Nat → Nat) (a b : Nat) (ha : a < 24) (hb2 : b < 24) (hB : Bd Ob ∧ Bd Rv ∧ Bd Lo ∧ Bd Hi) : ZMi l yX6_isEarlier cX6_isEarlier 3 (some .boolean) rmX6_isEarlier E [.ref h0, .int (nI a), .int (nI b)] [(h0, ob 6 [.ref aN, .ref aH, .int (nI ed), .int (nI mc), .ref aO, .ref aR, .ref aL, .ref aG, .ref aT, .ref aE, .ref aB, .ref aV]), (aO, ia E 24 (nA Ob)), (aR, ia E 24 (nA Rv)), (aL, ia E 48 (nA Lo)), (aG, ia E 48 (nA Hi))] (S := Unit) (fun r _ => r = bI (erM Ob Rv Lo Hi a b)) (fun _ => [(h0, ob 6 [.ref aN, .ref aH, .int (nI ed), .int (nI mc), .ref aO, .ref aR, .ref aL, .ref aG, .ref aT, .ref aE, .ref aB, .ref aV]), (aO, ia E 24 (nA Ob)), (aR, ia E 24 (nA Rv)), (aL, ia E 48 (nA Lo)), (aG, ia E 48 (nA Hi))]) := by
  refine z_mz (by decide) (Nat.le_of_ble_eq_true rfl) ?_
  intro p e s m args below meth c A Q ls cx hin hw hl ret
  obtain ⟨hx, hb, hml, hown, hts, hK, hN, hA, hlk⟩ := id cx
  have hl : lv_has ls 3 [(0, .ref h0), (1, .int (nI a)), (2, .int (nI b))] := hl
  have b1_ := hB.1 a
  have b2_ := hB.1 b
  have b3_ := hB.2.1 a
  have b4_ := hB.2.1 b
  refine lv_iload_n hx hb dX6_isEarlier_0 rfl (lv_at hl 1 rfl) ?_
  refine lv_iload_n hx hb dX6_isEarlier_1 rfl (lv_at hl 2 rfl) ?_
  refine z_icmp_ne hx hb (by omega) (by omega) 7 dX6_isEarlier_2 (by decide) (fun c_2 => ?_) (fun c_2 => ?_)
  · refine lv_aload_n hx hb dX6_isEarlier_7 rfl (lv_at hl 0 rfl) ?_
    refine z_get cx hw 0 4 rfl rfl inlX6 (by decide) wd_72 rfl dX6_isEarlier_8 ?_
    refine lv_iload_n hx hb dX6_isEarlier_11 rfl (lv_at hl 1 rfl) ?_
    refine z_aldN cx hw 1 rfl (a) rfl (by omega) (by decide) dX6_isEarlier_12 ?_
    refine lv_aload_n hx hb dX6_isEarlier_13 rfl (lv_at hl 0 rfl) ?_
    refine z_get cx hw 0 4 rfl rfl inlX6 (by decide) wd_72 rfl dX6_isEarlier_14 ?_
    refine lv_iload_n hx hb dX6_isEarlier_17 rfl (lv_at hl 2 rfl) ?_
    refine z_aldN cx hw 1 rfl (b) rfl (by omega) (by decide) dX6_isEarlier_18 ?_
    refine z_icmp_ne hx hb (by omega) (by omega) 32 dX6_isEarlier_19 (by decide) (fun c_19 => ?_) (fun c_19 => ?_)
    · refine lv_aload_n hx hb dX6_isEarlier_32 rfl (lv_at hl 0 rfl) ?_
      refine z_get cx hw 0 5 rfl rfl inlX6 (by decide) wd_73 rfl dX6_isEarlier_33 ?_
      refine lv_iload_n hx hb dX6_isEarlier_36 rfl (lv_at hl 1 rfl) ?_
      refine z_aldN cx hw 2 rfl (a) rfl (by omega) (by decide) dX6_isEarlier_37 ?_
      refine lv_aload_n hx hb dX6_isEarlier_38 rfl (lv_at hl 0 rfl) ?_
      refine z_get cx hw 0 5 rfl rfl inlX6 (by decide) wd_73 rfl dX6_isEarlier_39 ?_
      refine lv_iload_n hx hb dX6_isEarlier_42 rfl (lv_at hl 2 rfl) ?_
      refine z_aldN cx hw 2 rfl (b) rfl (by omega) (by decide) dX6_isEarlier_43 ?_
      refine z_icmp_ne hx hb (by omega) (by omega) 61 dX6_isEarlier_44 (by decide) (fun c_44 => ?_) (fun c_44 => ?_)
      · refine lv_iconst (v := nI 0) hx hb dX6_isEarlier_61 (by decide) ?_
        exact ret false () 62 ls s.heap [] dX6_isEarlier_62 (congrArg bI (by simp [erM, c_2, c_19, c_44])) (hw)
      · refine lv_aload_n hx hb dX6_isEarlier_47 rfl (lv_at hl 0 rfl) ?_
        refine lv_iload_n hx hb dX6_isEarlier_48 rfl (lv_at hl 1 rfl) ?_
        refine lv_iload_n hx hb dX6_isEarlier_49 rfl (lv_at hl 2 rfl) ?_
        refine lv_iconst (v := nI 1) hx hb dX6_isEarlier_50 (by decide) ?_
        refine z_ri0 (wr := [(aO, ia E 24 (nA Ob)), (aR, ia E 24 (nA Rv))]) cx hw [0, 3, 4] [1, 2] rfl rfl (by decide) (by decide) rfl rfl (z_runV (As := [.int (nI a), .int (nI b), .int (nI 1)]) (rest := []) cx hw rfl rfl [0, 3, 4] rfl rfl (c_X6_isBy l E h0 aN aH aO aR aL aG aT aE aB aV ed mc Lo Hi a b 1 (by omega) (by omega) (by omega) (hB.2.2.1) (hB.2.2.2) s.heap.size) mf_X6_isBy wd_399 ⟨Nat.le_of_ble_eq_true rfl, Nat.le_of_ble_eq_true rfl⟩ hl (Nat.le_of_ble_eq_true rfl) dX6_isEarlier_51 ⟨Nat.le_of_ble_eq_true rfl, Nat.le_of_ble_eq_true rfl⟩) (fun r _ H locs hp hw => ?_)
        have hr_51 := hp
        have hr_51 : r = bI (byM Lo Hi a b 1) := hr_51
        subst hr_51
        have hw : ZW E A s [(aO, ia E 24 (nA Ob)), (aR, ia E 24 (nA Rv)), (h0, ob 6 [.ref aN, .ref aH, .int (nI ed), .int (nI mc), .ref aO, .ref aR, .ref aL, .ref aG, .ref aT, .ref aE, .ref aB, .ref aV]), (aL, ia E 48 (nA Lo)), (aG, ia E 48 (nA Hi))] H locs := hw
        refine z_ifb_eq hx hb 61 dX6_isEarlier_54 (by decide) (fun c_54 => ?_) (fun c_54 => ?_)
        · refine lv_iconst (v := nI 0) hx hb dX6_isEarlier_61 (by decide) ?_
          exact ret false () 62 ls H locs dX6_isEarlier_62 (congrArg bI (by simp [erM, c_2, c_19, c_44, c_54])) (hw.perm [2, 0, 1, 3, 4] rfl (by decide))
        · refine lv_iconst (v := nI 1) hx hb dX6_isEarlier_57 (by decide) ?_
          refine lv_goto (tgt := 62) hx hb dX6_isEarlier_58 (by decide) ?_
          exact ret true () 62 ls H locs dX6_isEarlier_62 (congrArg bI (by simp [erM, c_2, c_19, c_44, c_54])) (hw.perm [2, 0, 1, 3, 4] rfl (by decide))
    · refine lv_aload_n hx hb dX6_isEarlier_22 rfl (lv_at hl 0 rfl) ?_
      refine lv_iload_n hx hb dX6_isEarlier_23 rfl (lv_at hl 1 rfl) ?_
      refine lv_iload_n hx hb dX6_isEarlier_24 rfl (lv_at hl 2 rfl) ?_
      refine lv_iconst (v := nI 0) hx hb dX6_isEarlier_25 (by decide) ?_
      refine z_ri0 (wr := [(aO, ia E 24 (nA Ob)), (aR, ia E 24 (nA Rv))]) cx hw [0, 3, 4] [1, 2] rfl rfl (by decide) (by decide) rfl rfl (z_runV (As := [.int (nI a), .int (nI b), .int (nI 0)]) (rest := []) cx hw rfl rfl [0, 3, 4] rfl rfl (c_X6_isBy l E h0 aN aH aO aR aL aG aT aE aB aV ed mc Lo Hi a b 0 (by omega) (by omega) (by omega) (hB.2.2.1) (hB.2.2.2) s.heap.size) mf_X6_isBy wd_399 ⟨Nat.le_of_ble_eq_true rfl, Nat.le_of_ble_eq_true rfl⟩ hl (Nat.le_of_ble_eq_true rfl) dX6_isEarlier_26 ⟨Nat.le_of_ble_eq_true rfl, Nat.le_of_ble_eq_true rfl⟩) (fun r _ H locs hp hw => ?_)
      have hr_26 := hp
      have hr_26 : r = bI (byM Lo Hi a b 0) := hr_26
      subst hr_26
      have hw : ZW E A s [(aO, ia E 24 (nA Ob)), (aR, ia E 24 (nA Rv)), (h0, ob 6 [.ref aN, .ref aH, .int (nI ed), .int (nI mc), .ref aO, .ref aR, .ref aL, .ref aG, .ref aT, .ref aE, .ref aB, .ref aV]), (aL, ia E 48 (nA Lo)), (aG, ia E 48 (nA Hi))] H locs := hw
      refine lv_goto (tgt := 62) hx hb dX6_isEarlier_29 (by decide) ?_
      exact ret (byM Lo Hi a b 0) () 62 ls H locs dX6_isEarlier_62 (congrArg bI (by rw [erM, if_neg c_2, if_pos c_19])) (hw.perm [2, 0, 1, 3, 4] rfl (by decide))
  · refine lv_iconst (v := nI 0) hx hb dX6_isEarlier_5 (by decide) ?_
    exact ret false () 6 ls s.heap [] dX6_isEarlier_6 (congrArg bI (by rw [erM, if_pos c_2])) (hw)

def rmX6_compareCouples : Room := { frames := 2, cells := 0, slots := 0, locals := 49 }
set_option maxHeartbeats 4000000 in
set_option maxRecDepth 100000 in
theorem c_X6_compareCouples (l : Launch) (E : ZE) (h0 aN aH aO aR aL aG aT aE aB aV : Nat) (ed mc : Nat) (Nw : Nat → Nat) (Ob Rv Lo Hi : Nat → Nat) (x y : Int32) (hn : Nw 96 ≤ 24) (hF : ∀ j, j < 96 → Nw j < 10) (hW : ∀ k sd, k < 24 → sd < 2 → Nw (4 * k + 2 + sd) ≤ 5) (hB : Bd Ob ∧ Bd Rv ∧ Bd Lo ∧ Bd Hi) : ZMi l yX6_compareCouples cX6_compareCouples 3 (some .int) rmX6_compareCouples E [.ref h0, .int x, .int y] [(h0, ob 6 [.ref aN, .ref aH, .int (nI ed), .int (nI mc), .ref aO, .ref aR, .ref aL, .ref aG, .ref aT, .ref aE, .ref aB, .ref aV]), (aN, ia E 97 (nA Nw)), (aO, ia E 24 (nA Ob)), (aR, ia E 24 (nA Rv)), (aL, ia E 48 (nA Lo)), (aG, ia E 48 (nA Hi))] (S := (Nat → Nat) × (Nat → Nat) × (Nat → Nat) × (Nat → Nat)) (fun r u => r = cmpR x y (rk (hasP Nw (Nw 96)) 100) (erM u.1 u.2.1 u.2.2.1 u.2.2.2) ∧ FI Nw (Nw 96) 100 u.1 u.2.1 u.2.2.1 u.2.2.2 ∧ Bd u.1 ∧ Bd u.2.1 ∧ Bd u.2.2.1 ∧ Bd u.2.2.2) (fun u => [(h0, ob 6 [.ref aN, .ref aH, .int (nI ed), .int (nI (rk (hasP Nw (Nw 96)) 100)), .ref aO, .ref aR, .ref aL, .ref aG, .ref aT, .ref aE, .ref aB, .ref aV]), (aN, ia E 97 (nA Nw)), (aO, ia E 24 (nA u.1)), (aR, ia E 24 (nA u.2.1)), (aL, ia E 48 (nA u.2.2.1)), (aG, ia E 48 (nA u.2.2.2))]) := by
  refine z_mi (by decide) (Nat.le_of_ble_eq_true rfl) ?_
  intro p e s m args below meth c A Q ls cx hin hw hl ret
  obtain ⟨hx, hb, hml, hown, hts, hK, hN, hA, hlk⟩ := id cx
  have hl : lv_has ls 3 [(0, .ref h0), (1, .int x), (2, .int y)] := hl
  refine lv_aload_n hx hb dX6_compareCouples_0 rfl (lv_at hl 0 rfl) ?_
  refine z_rv0 (wr := []) cx hw [0, 1, 2, 3, 4, 5] [] rfl rfl (by decide) (by decide) rfl rfl (z_runV (As := []) (rest := []) cx hw rfl rfl [0, 1, 2, 3, 4, 5] rfl rfl (c_X6_finds l E h0 aN aH aO aR aL aG aT aE aB aV ed mc Nw Ob Rv Lo Hi (by omega) (hF) (hW) (hB) s.heap.size) mf_X6_finds wd_284 ⟨Nat.le_of_ble_eq_true rfl, Nat.le_of_ble_eq_true rfl⟩ hl (Nat.le_of_ble_eq_true rfl) dX6_compareCouples_1 ⟨Nat.le_of_ble_eq_true rfl, Nat.le_of_ble_eq_true rfl⟩) (fun u H locs hp hw => ?_)
  obtain ⟨Ob, Rv, Lo, Hi⟩ := u
  have hp_1 : FI Nw (Nw 96) 100 Ob Rv Lo Hi ∧ Bd Ob ∧ Bd Rv ∧ Bd Lo ∧ Bd Hi := hp
  have hw : ZW E A s [(h0, ob 6 [.ref aN, .ref aH, .int (nI ed), .int (nI (rk (hasP Nw (Nw 96)) 100)), .ref aO, .ref aR, .ref aL, .ref aG, .ref aT, .ref aE, .ref aB, .ref aV]), (aN, ia E 97 (nA Nw)), (aO, ia E 24 (nA Ob)), (aR, ia E 24 (nA Rv)), (aL, ia E 48 (nA Lo)), (aG, ia E 48 (nA Hi))] H locs := hw
  have hmm_ := rk_hasP Nw (Nw 96) 100
  refine lv_iload_n hx hb dX6_compareCouples_4 rfl (lv_at hl 1 rfl) ?_
  refine lv_iconst (v := nI 0) hx hb dX6_compareCouples_5 (by decide) ?_
  refine lv_aload_n hx hb dX6_compareCouples_6 rfl (lv_at hl 0 rfl) ?_
  refine z_get cx hw 0 3 rfl rfl inlX6 (by decide) wd_283 rfl dX6_compareCouples_7 ?_
  refine lv_iconst (v := nI 1) hx hb dX6_compareCouples_10 (by decide) ?_
  refine lv_isub hx hb dX6_compareCouples_11 ?_
  refine z_ri0 (wr := [(h0, ob 6 [.ref aN, .ref aH, .int (nI ed), .int (nI (rk (hasP Nw (Nw 96)) 100)), .ref aO, .ref aR, .ref aL, .ref aG, .ref aT, .ref aE, .ref aB, .ref aV]), (aN, ia E 97 (nA Nw)), (aO, ia E 24 (nA Ob)), (aR, ia E 24 (nA Rv)), (aL, ia E 48 (nA Lo)), (aG, ia E 48 (nA Hi))]) cx hw [] [0, 1, 2, 3, 4, 5] rfl rfl (by decide) (by decide) rfl rfl (z_runS (As := [.int x, .int (nI 0), .int ((nI (rk (hasP Nw (Nw 96)) 100)) - (nI 1))]) (rest := []) cx hw [] rfl rfl (c_X6_in l E x (nI 0) ((nI (rk (hasP Nw (Nw 96)) 100)) - (nI 1))  H.size) mf_X6_in wd_108 ⟨Nat.le_of_ble_eq_true rfl, Nat.le_of_ble_eq_true rfl⟩ hl (Nat.le_of_ble_eq_true rfl) dX6_compareCouples_12 ⟨Nat.le_of_ble_eq_true rfl, Nat.le_of_ble_eq_true rfl⟩) (fun r _ H locs hp hw => ?_)
  have hr_12 := hp
  have hr_12 : r = bI (decide ((nI 0) ≤ x ∧ x ≤ ((nI (rk (hasP Nw (Nw 96)) 100)) - (nI 1)))) := hr_12
  subst hr_12
  have hw : ZW E A s [(h0, ob 6 [.ref aN, .ref aH, .int (nI ed), .int (nI (rk (hasP Nw (Nw 96)) 100)), .ref aO, .ref aR, .ref aL, .ref aG, .ref aT, .ref aE, .ref aB, .ref aV]), (aN, ia E 97 (nA Nw)), (aO, ia E 24 (nA Ob)), (aR, ia E 24 (nA Rv)), (aL, ia E 48 (nA Lo)), (aG, ia E 48 (nA Hi))] H locs := hw
  rw [show decide (nI 0 ≤ x ∧ x ≤ nI (rk (hasP Nw (Nw 96)) 100) - nI 1) = inR x (rk (hasP Nw (Nw 96)) 100) from inR_pred (by omega)]
  refine z_ifb_eq hx hb 37 dX6_compareCouples_15 (by decide) (fun c_15 => ?_) (fun c_15 => ?_)
  · refine lv_iconst (v := (-1)) hx hb dX6_compareCouples_37 (by decide) ?_
    exact ret ((-1)) (Ob, Rv, Lo, Hi) 38 ls H locs dX6_compareCouples_38 (⟨by rw [cmpR, if_neg (fun z => by rw [c_15] at z; exact absurd z.1 (by decide))], hp_1⟩) (hw)
  · obtain ⟨k, hk, rfl⟩ := inR_get c_15 (by omega)
    refine lv_iload_n hx hb dX6_compareCouples_18 rfl (lv_at hl 2 rfl) ?_
    refine lv_iconst (v := nI 0) hx hb dX6_compareCouples_19 (by decide) ?_
    refine lv_aload_n hx hb dX6_compareCouples_20 rfl (lv_at hl 0 rfl) ?_
    refine z_get cx hw 0 3 rfl rfl inlX6 (by decide) wd_283 rfl dX6_compareCouples_21 ?_
    refine lv_iconst (v := nI 1) hx hb dX6_compareCouples_24 (by decide) ?_
    refine lv_isub hx hb dX6_compareCouples_25 ?_
    refine z_ri0 (wr := [(h0, ob 6 [.ref aN, .ref aH, .int (nI ed), .int (nI (rk (hasP Nw (Nw 96)) 100)), .ref aO, .ref aR, .ref aL, .ref aG, .ref aT, .ref aE, .ref aB, .ref aV]), (aN, ia E 97 (nA Nw)), (aO, ia E 24 (nA Ob)), (aR, ia E 24 (nA Rv)), (aL, ia E 48 (nA Lo)), (aG, ia E 48 (nA Hi))]) cx hw [] [0, 1, 2, 3, 4, 5] rfl rfl (by decide) (by decide) rfl rfl (z_runS (As := [.int y, .int (nI 0), .int ((nI (rk (hasP Nw (Nw 96)) 100)) - (nI 1))]) (rest := []) cx hw [] rfl rfl (c_X6_in l E y (nI 0) ((nI (rk (hasP Nw (Nw 96)) 100)) - (nI 1))  H.size) mf_X6_in wd_108 ⟨Nat.le_of_ble_eq_true rfl, Nat.le_of_ble_eq_true rfl⟩ hl (Nat.le_of_ble_eq_true rfl) dX6_compareCouples_26 ⟨Nat.le_of_ble_eq_true rfl, Nat.le_of_ble_eq_true rfl⟩) (fun r _ H locs hp hw => ?_)
    have hr_26 := hp
    have hr_26 : r = bI (decide ((nI 0) ≤ y ∧ y ≤ ((nI (rk (hasP Nw (Nw 96)) 100)) - (nI 1)))) := hr_26
    subst hr_26
    have hw : ZW E A s [(h0, ob 6 [.ref aN, .ref aH, .int (nI ed), .int (nI (rk (hasP Nw (Nw 96)) 100)), .ref aO, .ref aR, .ref aL, .ref aG, .ref aT, .ref aE, .ref aB, .ref aV]), (aN, ia E 97 (nA Nw)), (aO, ia E 24 (nA Ob)), (aR, ia E 24 (nA Rv)), (aL, ia E 48 (nA Lo)), (aG, ia E 48 (nA Hi))] H locs := hw
    rw [show decide (nI 0 ≤ y ∧ y ≤ nI (rk (hasP Nw (Nw 96)) 100) - nI 1) = inR y (rk (hasP Nw (Nw 96)) 100) from inR_pred (by omega)]
    refine z_ifb_eq hx hb 37 dX6_compareCouples_29 (by decide) (fun c_29 => ?_) (fun c_29 => ?_)
    · refine lv_iconst (v := (-1)) hx hb dX6_compareCouples_37 (by decide) ?_
      exact ret ((-1)) (Ob, Rv, Lo, Hi) 38 ls H locs dX6_compareCouples_38 (⟨by rw [cmpR, if_neg (fun z => by rw [c_29] at z; exact absurd z.2.1 (by decide))], hp_1⟩) (hw)
    · obtain ⟨k2, hk2, rfl⟩ := inR_get c_29 (by omega)
      refine lv_iload_n hx hb dX6_compareCouples_32 rfl (lv_at hl 1 rfl) ?_
      refine lv_iload_n hx hb dX6_compareCouples_33 rfl (lv_at hl 2 rfl) ?_
      refine z_icmp_ne hx hb (by omega) (by omega) 39 dX6_compareCouples_34 (by decide) (fun c_34 => ?_) (fun c_34 => ?_)
      · refine lv_aload_n hx hb dX6_compareCouples_39 rfl (lv_at hl 0 rfl) ?_
        refine lv_iload_n hx hb dX6_compareCouples_40 rfl (lv_at hl 1 rfl) ?_
        refine lv_iload_n hx hb dX6_compareCouples_41 rfl (lv_at hl 2 rfl) ?_
        refine z_ri0 (wr := [(aN, ia E 97 (nA Nw))]) cx hw [0, 2, 3, 4, 5] [1] rfl rfl (by decide) (by decide) rfl rfl (z_runV (As := [.int (nI k), .int (nI k2)]) (rest := []) cx hw rfl rfl [0, 2, 3, 4, 5] rfl rfl (c_X6_isEarlier l E h0 aN aH aO aR aL aG aT aE aB aV ed (rk (hasP Nw (Nw 96)) 100) Ob Rv Lo Hi k k2 (by omega) (by omega) (hp_1.2) H.size) mf_X6_isEarlier wd_395 ⟨Nat.le_of_ble_eq_true rfl, Nat.le_of_ble_eq_true rfl⟩ hl (Nat.le_of_ble_eq_true rfl) dX6_compareCouples_42 ⟨Nat.le_of_ble_eq_true rfl, Nat.le_of_ble_eq_true rfl⟩) (fun r _ H locs hp hw => ?_)
        have hr_42 := hp
        have hr_42 : r = bI (erM Ob Rv Lo Hi k k2) := hr_42
        subst hr_42
        have hw : ZW E A s [(aN, ia E 97 (nA Nw)), (h0, ob 6 [.ref aN, .ref aH, .int (nI ed), .int (nI (rk (hasP Nw (Nw 96)) 100)), .ref aO, .ref aR, .ref aL, .ref aG, .ref aT, .ref aE, .ref aB, .ref aV]), (aO, ia E 24 (nA Ob)), (aR, ia E 24 (nA Rv)), (aL, ia E 48 (nA Lo)), (aG, ia E 48 (nA Hi))] H locs := hw
        refine z_ifb_eq hx hb 52 dX6_compareCouples_45 (by decide) (fun c_45 => ?_) (fun c_45 => ?_)
        · refine lv_aload_n hx hb dX6_compareCouples_52 rfl (lv_at hl 0 rfl) ?_
          refine lv_iload_n hx hb dX6_compareCouples_53 rfl (lv_at hl 2 rfl) ?_
          refine lv_iload_n hx hb dX6_compareCouples_54 rfl (lv_at hl 1 rfl) ?_
          refine z_ri0 (wr := [(aN, ia E 97 (nA Nw))]) cx hw [1, 2, 3, 4, 5] [0] rfl rfl (by decide) (by decide) rfl rfl (z_runV (As := [.int (nI k2), .int (nI k)]) (rest := []) cx hw rfl rfl [1, 2, 3, 4, 5] rfl rfl (c_X6_isEarlier l E h0 aN aH aO aR aL aG aT aE aB aV ed (rk (hasP Nw (Nw 96)) 100) Ob Rv Lo Hi k2 k (by omega) (by omega) (hp_1.2) H.size) mf_X6_isEarlier wd_395 ⟨Nat.le_of_ble_eq_true rfl, Nat.le_of_ble_eq_true rfl⟩ hl (Nat.le_of_ble_eq_true rfl) dX6_compareCouples_55 ⟨Nat.le_of_ble_eq_true rfl, Nat.le_of_ble_eq_true rfl⟩) (fun r _ H locs hp hw => ?_)
          have hr_55 := hp
          have hr_55 : r = bI (erM Ob Rv Lo Hi k2 k) := hr_55
          subst hr_55
          have hw : ZW E A s [(aN, ia E 97 (nA Nw)), (h0, ob 6 [.ref aN, .ref aH, .int (nI ed), .int (nI (rk (hasP Nw (Nw 96)) 100)), .ref aO, .ref aR, .ref aL, .ref aG, .ref aT, .ref aE, .ref aB, .ref aV]), (aO, ia E 24 (nA Ob)), (aR, ia E 24 (nA Rv)), (aL, ia E 48 (nA Lo)), (aG, ia E 48 (nA Hi))] H locs := hw
          refine z_ifb_eq hx hb 65 dX6_compareCouples_58 (by decide) (fun c_58 => ?_) (fun c_58 => ?_)
          · refine lv_iconst (v := nI 0) hx hb dX6_compareCouples_65 (by decide) ?_
            exact ret (nI 0) (Ob, Rv, Lo, Hi) 66 ls H locs dX6_compareCouples_66 (⟨by rw [cmpR, if_pos ⟨c_15, c_29, by rw [cl_nI hk (by omega), cl_nI hk2 (by omega)]; exact c_34⟩, cl_nI hk (by omega), cl_nI hk2 (by omega), if_neg (by rw [c_45]; decide), if_neg (by rw [c_58]; decide)], hp_1⟩) (hw.perm [1, 0, 2, 3, 4, 5] rfl (by decide))
          · refine lv_iconst (v := nI 2) hx hb dX6_compareCouples_61 (by decide) ?_
            refine lv_goto (tgt := 66) hx hb dX6_compareCouples_62 (by decide) ?_
            exact ret (nI 2) (Ob, Rv, Lo, Hi) 66 ls H locs dX6_compareCouples_66 (⟨by rw [cmpR, if_pos ⟨c_15, c_29, by rw [cl_nI hk (by omega), cl_nI hk2 (by omega)]; exact c_34⟩, cl_nI hk (by omega), cl_nI hk2 (by omega), if_neg (by rw [c_45]; decide), if_pos c_58], hp_1⟩) (hw.perm [1, 0, 2, 3, 4, 5] rfl (by decide))
        · refine lv_iconst (v := nI 1) hx hb dX6_compareCouples_48 (by decide) ?_
          refine lv_goto (tgt := 66) hx hb dX6_compareCouples_49 (by decide) ?_
          exact ret (nI 1) (Ob, Rv, Lo, Hi) 66 ls H locs dX6_compareCouples_66 (⟨by rw [cmpR, if_pos ⟨c_15, c_29, by rw [cl_nI hk (by omega), cl_nI hk2 (by omega)]; exact c_34⟩, cl_nI hk (by omega), cl_nI hk2 (by omega), if_pos c_45], hp_1⟩) (hw.perm [1, 0, 2, 3, 4, 5] rfl (by decide))
      · refine lv_iconst (v := (-1)) hx hb dX6_compareCouples_37 (by decide) ?_
        exact ret ((-1)) (Ob, Rv, Lo, Hi) 38 ls H locs dX6_compareCouples_38 (⟨by rw [cmpR, if_neg (fun z => z.2.2 (by rw [cl_nI hk (by omega), cl_nI hk2 (by omega)]; exact c_34))], hp_1⟩) (hw)

def rmX6_places : Room := { frames := 2, cells := 0, slots := 0, locals := 45 }
set_option maxHeartbeats 4000000 in
set_option maxRecDepth 100000 in
theorem c_X6_places (l : Launch) (E : ZE) (h0 aN aH aO aR aL aG aT aE aB aV : Nat) (ed mc : Nat) (Ob Rv Lo Hi : Nat → Nat) (Od Ge : Nat → Nat) (Pl : Nat → Bool) (hmm : mc ≤ 24) (hB : Bd Ob ∧ Bd Rv ∧ Bd Lo ∧ Bd Hi) : ZMi l yX6_places cX6_places 6 (some .boolean) rmX6_places E [.ref h0] [(h0, ob 6 [.ref aN, .ref aH, .int (nI ed), .int (nI mc), .ref aO, .ref aR, .ref aL, .ref aG, .ref aT, .ref aE, .ref aB, .ref aV]), (aO, ia E 24 (nA Ob)), (aR, ia E 24 (nA Rv)), (aL, ia E 48 (nA Lo)), (aG, ia E 48 (nA Hi)), (aT, ia E 24 (nA Od)), (aE, ia E 24 (nA Ge)), (aB, ba E 24 (bA Pl))] (S := (Nat → Bool) × (Nat → Nat) × (Nat → Nat)) (fun r u => r = bI ((plS (erM Ob Rv Lo Hi) mc (clrB Pl mc) Od (clrN Ge mc) mc).isSome) ∧ ∀ t, plS (erM Ob Rv Lo Hi) mc (clrB Pl mc) Od (clrN Ge mc) mc = some t → u.2.1 = t.2.1 ∧ u.2.2 = t.2.2) (fun u => [(h0, ob 6 [.ref aN, .ref aH, .int (nI ed), .int (nI mc), .ref aO, .ref aR, .ref aL, .ref aG, .ref aT, .ref aE, .ref aB, .ref aV]), (aO, ia E 24 (nA Ob)), (aR, ia E 24 (nA Rv)), (aL, ia E 48 (nA Lo)), (aG, ia E 48 (nA Hi)), (aT, ia E 24 (nA u.2.1)), (aE, ia E 24 (nA u.2.2)), (aB, ba E 24 (bA u.1))]) := by
  refine z_mz (by decide) (Nat.le_of_ble_eq_true rfl) ?_
  intro p e s m args below meth c A Q ls cx hin hw hl ret
  obtain ⟨hx, hb, hml, hown, hts, hK, hN, hA, hlk⟩ := id cx
  have hl : lv_has ls 6 [(0, .ref h0)] := hl
  refine lv_iconst (v := nI 0) hx hb dX6_places_0 (by decide) ?_
  refine lv_istore_n (lv' := [(1, .int (nI 0)), (0, .ref h0)]) hx hb dX6_places_1 rfl hl (by decide) rfl (fun ls hl => ?_)
  have loop_2 : ∀ (fuel : Nat) (j0 : Nat) (hj0 : j0 ≤ mc) (hm : mc - j0 < fuel) (H : Heap) (locs : List Loc) (ls : Array Slot), ZW E A s [(h0, ob 6 [.ref aN, .ref aH, .int (nI ed), .int (nI mc), .ref aO, .ref aR, .ref aL, .ref aG, .ref aT, .ref aE, .ref aB, .ref aV]), (aO, ia E 24 (nA Ob)), (aR, ia E 24 (nA Rv)), (aL, ia E 48 (nA Lo)), (aG, ia E 48 (nA Hi)), (aT, ia E 24 (nA Od)), (aE, ia E 24 (nA (clrN Ge j0))), (aB, ba E 24 (bA (clrB Pl j0)))] H locs → lv_has ls 6 [(0, .ref h0), (1, .int (nI j0))] → W p l e rmX6_places s m args below meth c H locs 0 0 Q (F0 m 2 ls []) := by
    intro fuel
    induction fuel with
    | zero => intro j0 hj0 hm; exact absurd hm (Nat.not_lt_zero _)
    | succ fuel ih_2 =>
      intro j0 hj0 hm H locs ls hw hl
      refine lv_iload_n hx hb dX6_places_2 rfl (lv_at hl 1 rfl) ?_
      refine lv_aload_n hx hb dX6_places_3 rfl (lv_at hl 0 rfl) ?_
      refine z_get cx hw 0 3 rfl rfl inlX6 (by decide) wd_283 rfl dX6_places_4 ?_
      refine z_icmp_ge hx hb (by omega) (by omega) 30 dX6_places_7 (by decide) (fun c_7 => ?_) (fun c_7 => ?_)
      · refine lv_iconst (v := nI 0) hx hb dX6_places_30 (by decide) ?_
        refine lv_istore_n (lv' := [(1, .int (nI 0)), (0, .ref h0)]) hx hb dX6_places_31 rfl hl (by decide) rfl (fun ls hl => ?_)
        have ej_ : j0 = mc := by omega
        have loop_32 : ∀ (fuel : Nat) (k : Nat) (pl : Nat → Bool) (od : Nat → Nat) (ge : Nat → Nat) (hk : k ≤ mc) (hI : plS (erM Ob Rv Lo Hi) mc (clrB Pl mc) Od (clrN Ge mc) k = some (pl, od, ge)) (hd : ∀ x, x < mc → ge x ≤ k) (hm : mc - k < fuel) (H : Heap) (locs : List Loc) (ls : Array Slot), ZW E A s [(h0, ob 6 [.ref aN, .ref aH, .int (nI ed), .int (nI mc), .ref aO, .ref aR, .ref aL, .ref aG, .ref aT, .ref aE, .ref aB, .ref aV]), (aO, ia E 24 (nA Ob)), (aR, ia E 24 (nA Rv)), (aL, ia E 48 (nA Lo)), (aG, ia E 48 (nA Hi)), (aT, ia E 24 (nA od)), (aE, ia E 24 (nA ge)), (aB, ba E 24 (bA pl))] H locs → lv_has ls 6 [(0, .ref h0), (1, .int (nI k))] → W p l e rmX6_places s m args below meth c H locs 0 0 Q (F0 m 32 ls []) := by
          intro fuel
          induction fuel with
          | zero => intro k pl od ge hk hI hd hm; exact absurd hm (Nat.not_lt_zero _)
          | succ fuel ih_32 =>
            intro k pl od ge hk hI hd hm H locs ls hw hl
            refine lv_iload_n hx hb dX6_places_32 rfl (lv_at hl 1 rfl) ?_
            refine lv_aload_n hx hb dX6_places_33 rfl (lv_at hl 0 rfl) ?_
            refine z_get cx hw 0 3 rfl rfl inlX6 (by decide) wd_283 rfl dX6_places_34 ?_
            refine z_icmp_ge hx hb (by omega) (by omega) 229 dX6_places_37 (by decide) (fun c_37 => ?_) (fun c_37 => ?_)
            · refine lv_iconst (v := nI 1) hx hb dX6_places_229 (by decide) ?_
              have e_ : k = mc := by omega
              rw [e_] at hI
              exact ret true (pl, od, ge) 230 ls H locs dX6_places_230 (⟨congrArg bI (by rw [hI]; rfl), fun t ht => by rw [hI] at ht; cases ht; exact ⟨rfl, rfl⟩⟩) (hw)
            · refine lv_iconst (v := (-1)) hx hb dX6_places_40 (by decide) ?_
              refine lv_istore_n (lv' := [(2, .int ((-1))), (0, .ref h0), (1, .int (nI k))]) hx hb dX6_places_41 rfl hl (by decide) rfl (fun ls hl => ?_)
              refine lv_aload_n hx hb dX6_places_42 rfl (lv_at hl 1 rfl) ?_
              refine z_get cx hw 0 3 rfl rfl inlX6 (by decide) wd_283 rfl dX6_places_43 ?_
              refine lv_iconst (v := nI 1) hx hb dX6_places_46 (by decide) ?_
              refine lv_isub hx hb dX6_places_47 ?_
              refine lv_istore_n (lv' := [(3, .int ((nI mc) - (nI 1))), (2, .int ((-1))), (0, .ref h0), (1, .int (nI k))]) hx hb dX6_places_48 rfl hl (by decide) rfl (fun ls hl => ?_)
              have loop_49 : ∀ (fuel : Nat) (i : Nat) (hi : i ≤ mc) (hm : i < fuel) (H : Heap) (locs : List Loc) (ls : Array Slot), ZW E A s [(h0, ob 6 [.ref aN, .ref aH, .int (nI ed), .int (nI mc), .ref aO, .ref aR, .ref aL, .ref aG, .ref aT, .ref aE, .ref aB, .ref aV]), (aO, ia E 24 (nA Ob)), (aR, ia E 24 (nA Rv)), (aL, ia E 48 (nA Lo)), (aG, ia E 48 (nA Hi)), (aT, ia E 24 (nA od)), (aE, ia E 24 (nA ge)), (aB, ba E 24 (bA pl))] H locs → lv_has ls 6 [(0, .ref h0), (1, .int (nI k)), (2, .int (optI (lowF (fun x => canM (erM Ob Rv Lo Hi) pl x mc) mc (mc - i)))), (3, .int (nI i - nI 1))] → W p l e rmX6_places s m args below meth c H locs 0 0 Q (F0 m 49 ls []) := by
                intro fuel
                induction fuel with
                | zero => intro i hi hm; exact absurd hm (Nat.not_lt_zero _)
                | succ fuel ih_49 =>
                  intro i hi hm H locs ls hw hl
                  refine lv_iload_n hx hb dX6_places_49 rfl (lv_at hl 3 rfl) ?_
                  refine lv_if_lt (tgt := 136) hx hb dX6_places_50 (by decide) (fun c_50 => ?_) (fun c_50 => ?_)
                  · refine lv_iload_n hx hb dX6_places_136 rfl (lv_at hl 2 rfl) ?_
                    refine lv_if_ge (tgt := 142) hx hb dX6_places_137 (by decide) (fun c_137 => ?_) (fun c_137 => ?_)
                    · have hi0_ : i = 0 := by
                        rcases Nat.eq_zero_or_pos i with q | q
                        · exact q
                        · exact absurd c_50 (by rw [pk_sub (by omega)]; exact nI_pos (by omega))
                      have ez_ : mc - i = mc := by omega
                      rw [ez_] at c_137
                      obtain ⟨x2, hz_⟩ := optI_nn c_137
                      have hx2_ := lowF_lt hz_ (by omega)
                      have hl : lv_has ls 6 [(0, .ref h0), (1, .int (nI k)), (2, .int (nI x2)), (3, .int (nI i - nI 1))] := by rw [ez_, hz_] at hl; exact hl
                      refine lv_iconst (v := nI 0) hx hb dX6_places_142 (by decide) ?_
                      refine lv_istore_n (lv' := [(3, .int (nI 0)), (0, .ref h0), (1, .int (nI k)), (2, .int (nI x2))]) hx hb dX6_places_143 rfl hl (by decide) rfl (fun ls hl => ?_)
                      have loop_144 : ∀ (fuel : Nat) (o2 : Nat) (ho2 : o2 ≤ mc) (hm : mc - o2 < fuel) (H : Heap) (locs : List Loc) (ls : Array Slot), ZW E A s [(h0, ob 6 [.ref aN, .ref aH, .int (nI ed), .int (nI mc), .ref aO, .ref aR, .ref aL, .ref aG, .ref aT, .ref aE, .ref aB, .ref aV]), (aO, ia E 24 (nA Ob)), (aR, ia E 24 (nA Rv)), (aL, ia E 48 (nA Lo)), (aG, ia E 48 (nA Hi)), (aT, ia E 24 (nA od)), (aE, ia E 24 (nA (updN ge x2 (gmx (erM Ob Rv Lo Hi) ge x2 o2)))), (aB, ba E 24 (bA pl))] H locs → lv_has ls 6 [(0, .ref h0), (1, .int (nI k)), (2, .int (nI x2)), (3, .int (nI o2))] → W p l e rmX6_places s m args below meth c H locs 0 0 Q (F0 m 144 ls []) := by
                        intro fuel
                        induction fuel with
                        | zero => intro o2 ho2 hm; exact absurd hm (Nat.not_lt_zero _)
                        | succ fuel ih_144 =>
                          intro o2 ho2 hm H locs ls hw hl
                          refine lv_iload_n hx hb dX6_places_144 rfl (lv_at hl 3 rfl) ?_
                          refine lv_aload_n hx hb dX6_places_145 rfl (lv_at hl 0 rfl) ?_
                          refine z_get cx hw 0 3 rfl rfl inlX6 (by decide) wd_283 rfl dX6_places_146 ?_
                          refine z_icmp_ge hx hb (by omega) (by omega) 209 dX6_places_149 (by decide) (fun c_149 => ?_) (fun c_149 => ?_)
                          · refine lv_aload_n hx hb dX6_places_209 rfl (lv_at hl 0 rfl) ?_
                            refine z_get cx hw 0 10 rfl rfl inlX6 (by decide) wd_79 rfl dX6_places_210 ?_
                            refine lv_iload_n hx hb dX6_places_213 rfl (lv_at hl 2 rfl) ?_
                            refine lv_iconst (v := nI 1) hx hb dX6_places_214 (by decide) ?_
                            refine z_zastB (b := true) cx hw 7 rfl (x2) rfl (by omega) (by decide) dX6_places_215 (fun H locs hw => ?_)
                            have hw : ZW E A s [(h0, ob 6 [.ref aN, .ref aH, .int (nI ed), .int (nI mc), .ref aO, .ref aR, .ref aL, .ref aG, .ref aT, .ref aE, .ref aB, .ref aV]), (aO, ia E 24 (nA Ob)), (aR, ia E 24 (nA Rv)), (aL, ia E 48 (nA Lo)), (aG, ia E 48 (nA Hi)), (aT, ia E 24 (nA od)), (aE, ia E 24 (nA (updN ge x2 (gmx (erM Ob Rv Lo Hi) ge x2 o2)))), (aB, ba E 24 (bA (updB pl x2 true)))] H locs := hw
                            refine lv_aload_n hx hb dX6_places_216 rfl (lv_at hl 0 rfl) ?_
                            refine z_get cx hw 0 8 rfl rfl inlX6 (by decide) wd_76 rfl dX6_places_217 ?_
                            refine lv_iload_n hx hb dX6_places_220 rfl (lv_at hl 1 rfl) ?_
                            refine lv_iload_n hx hb dX6_places_221 rfl (lv_at hl 2 rfl) ?_
                            refine z_astN cx hw 5 rfl (k) rfl (by omega) (by decide) dX6_places_222 (fun H locs hw => ?_)
                            have hw : ZW E A s [(h0, ob 6 [.ref aN, .ref aH, .int (nI ed), .int (nI mc), .ref aO, .ref aR, .ref aL, .ref aG, .ref aT, .ref aE, .ref aB, .ref aV]), (aO, ia E 24 (nA Ob)), (aR, ia E 24 (nA Rv)), (aL, ia E 48 (nA Lo)), (aG, ia E 48 (nA Hi)), (aT, ia E 24 (nA (updN od k x2))), (aE, ia E 24 (nA (updN ge x2 (gmx (erM Ob Rv Lo Hi) ge x2 o2)))), (aB, ba E 24 (bA (updB pl x2 true)))] H locs := hw
                            refine lv_iinc (v := nI (k + 1)) (lv' := [(1, .int (nI (k + 1))), (0, .ref h0), (2, .int (nI x2)), (3, .int (nI o2))]) hx hb dX6_places_223 hl (k := 1) rfl (nI_1 _) (by decide) rfl (fun ls hl => ?_)
                            refine lv_goto (tgt := 32) hx hb dX6_places_226 (by decide) ?_
                            have eo2_ : o2 = mc := by omega
                            have e_b32_0 : (updN ge x2 (gmx (erM Ob Rv Lo Hi) ge x2 o2)) = (updN ge x2 (gmx (erM Ob Rv Lo Hi) ge x2 mc)) := by rw [eo2_]
                            exact ih_32 (k + 1) (updB pl x2 true) (updN od k x2) (updN ge x2 (gmx (erM Ob Rv Lo Hi) ge x2 mc)) (by omega) (by simp only [plS, hI, Option.bind_some, hz_]) (fun x hx => by
                                        simp only [updN]
                                        split
                                        · exact gmx_le hd (hd x2 hx2_)
                                        · have := hd x hx; omega) (by omega) _ _ ls ((hw).cast (zc rfl (zc rfl (zc rfl (zc rfl (zc rfl (zc rfl (zc (congrArg (fun z => ((aE, ia E 24 (nA z)) : Nat × va_E)) e_b32_0) rfl)))))))) (lv_add (lv_add (lv_nil hl) (lv_at hl 0 rfl)) (lv_at hl 1 rfl))
                          · refine lv_aload_n hx hb dX6_places_152 rfl (lv_at hl 0 rfl) ?_
                            refine lv_iload_n hx hb dX6_places_153 rfl (lv_at hl 3 rfl) ?_
                            refine lv_iload_n hx hb dX6_places_154 rfl (lv_at hl 2 rfl) ?_
                            refine z_ri0 (wr := [(aT, ia E 24 (nA od)), (aE, ia E 24 (nA (updN ge x2 (gmx (erM Ob Rv Lo Hi) ge x2 o2)))), (aB, ba E 24 (bA pl))]) cx hw [0, 1, 2, 3, 4] [5, 6, 7] rfl rfl (by decide) (by decide) rfl rfl (z_runV (As := [.int (nI o2), .int (nI x2)]) (rest := []) cx hw rfl rfl [0, 1, 2, 3, 4] rfl rfl (c_X6_isEarlier l E h0 aN aH aO aR aL aG aT aE aB aV ed mc Ob Rv Lo Hi o2 x2 (by omega) (by omega) (hB) H.size) mf_X6_isEarlier wd_395 ⟨Nat.le_of_ble_eq_true rfl, Nat.le_of_ble_eq_true rfl⟩ hl (Nat.le_of_ble_eq_true rfl) dX6_places_155 ⟨Nat.le_of_ble_eq_true rfl, Nat.le_of_ble_eq_true rfl⟩) (fun r _ H locs hp hw => ?_)
                            have hr_155 := hp
                            have hr_155 : r = bI (erM Ob Rv Lo Hi o2 x2) := hr_155
                            subst hr_155
                            have hw : ZW E A s [(aT, ia E 24 (nA od)), (aE, ia E 24 (nA (updN ge x2 (gmx (erM Ob Rv Lo Hi) ge x2 o2)))), (aB, ba E 24 (bA pl)), (h0, ob 6 [.ref aN, .ref aH, .int (nI ed), .int (nI mc), .ref aO, .ref aR, .ref aL, .ref aG, .ref aT, .ref aE, .ref aB, .ref aV]), (aO, ia E 24 (nA Ob)), (aR, ia E 24 (nA Rv)), (aL, ia E 48 (nA Lo)), (aG, ia E 48 (nA Hi))] H locs := hw
                            have j_173 : ∀ (H : Heap) (locs : List Loc), ZW E A s [(aT, ia E 24 (nA od)), (aE, ia E 24 (nA (updN ge x2 (gmx (erM Ob Rv Lo Hi) ge x2 o2)))), (aB, ba E 24 (bA pl)), (h0, ob 6 [.ref aN, .ref aH, .int (nI ed), .int (nI mc), .ref aO, .ref aR, .ref aL, .ref aG, .ref aT, .ref aE, .ref aB, .ref aV]), (aO, ia E 24 (nA Ob)), (aR, ia E 24 (nA Rv)), (aL, ia E 48 (nA Lo)), (aG, ia E 48 (nA Hi))] H locs → W p l e rmX6_places s m args below meth c H locs 0 0 Q (F0 m 173 ls [.int (nI (gv (erM Ob Rv Lo Hi) ge x2 o2))]) := by
                              intro H locs hw
                              refine lv_istore (lv' := [(4, .int (nI (gv (erM Ob Rv Lo Hi) ge x2 o2))), (0, .ref h0), (1, .int (nI k)), (2, .int (nI x2)), (3, .int (nI o2))]) hx hb dX6_places_173 hl (by decide) rfl (fun ls hl => ?_)
                              refine lv_aload_n hx hb dX6_places_175 rfl (lv_at hl 1 rfl) ?_
                              refine z_get cx hw 3 9 rfl rfl inlX6 (by decide) wd_77 rfl dX6_places_176 ?_
                              refine lv_iload_n hx hb dX6_places_179 rfl (lv_at hl 3 rfl) ?_
                              refine lv_iload hx hb dX6_places_180 (lv_at hl 0 rfl) ?_
                              refine lv_aload_n hx hb dX6_places_182 rfl (lv_at hl 1 rfl) ?_
                              refine z_get cx hw 3 9 rfl rfl inlX6 (by decide) wd_77 rfl dX6_places_183 ?_
                              refine lv_iload_n hx hb dX6_places_186 rfl (lv_at hl 3 rfl) ?_
                              refine z_aldN cx hw 1 rfl (x2) rfl (by omega) (by decide) dX6_places_187 ?_
                              rw [updN_eq]
                              have q1_ := gmx_le (er := (erM Ob Rv Lo Hi)) (x := x2) (k := o2) (b := k) (fun o ho => hd o (by omega)) (hd x2 hx2_)
                              have q2_ : gv (erM Ob Rv Lo Hi) ge x2 o2 ≤ k + 1 := by have := hd o2 c_149; simp only [gv]; split <;> omega
                              have j_202 : ∀ (H : Heap) (locs : List Loc), ZW E A s [(aT, ia E 24 (nA od)), (aE, ia E 24 (nA (updN ge x2 (gmx (erM Ob Rv Lo Hi) ge x2 o2)))), (aB, ba E 24 (bA pl)), (h0, ob 6 [.ref aN, .ref aH, .int (nI ed), .int (nI mc), .ref aO, .ref aR, .ref aL, .ref aG, .ref aT, .ref aE, .ref aB, .ref aV]), (aO, ia E 24 (nA Ob)), (aR, ia E 24 (nA Rv)), (aL, ia E 48 (nA Lo)), (aG, ia E 48 (nA Hi))] H locs → W p l e rmX6_places s m args below meth c H locs 0 0 Q (F0 m 202 ls [.int (nI (max (gmx (erM Ob Rv Lo Hi) ge x2 o2) (gv (erM Ob Rv Lo Hi) ge x2 o2))), .int (nI x2), .ref aE]) := by
                                intro H locs hw
                                refine z_astN cx hw 1 rfl (x2) rfl (by omega) (by decide) dX6_places_202 (fun H locs hw => ?_)
                                have hw : ZW E A s [(aT, ia E 24 (nA od)), (aE, ia E 24 (nA (updN (updN ge x2 (gmx (erM Ob Rv Lo Hi) ge x2 o2)) x2 (max (gmx (erM Ob Rv Lo Hi) ge x2 o2) (gv (erM Ob Rv Lo Hi) ge x2 o2))))), (aB, ba E 24 (bA pl)), (h0, ob 6 [.ref aN, .ref aH, .int (nI ed), .int (nI mc), .ref aO, .ref aR, .ref aL, .ref aG, .ref aT, .ref aE, .ref aB, .ref aV]), (aO, ia E 24 (nA Ob)), (aR, ia E 24 (nA Rv)), (aL, ia E 48 (nA Lo)), (aG, ia E 48 (nA Hi))] H locs := hw
                                refine lv_iinc (v := nI (o2 + 1)) (lv' := [(3, .int (nI (o2 + 1))), (4, .int (nI (gv (erM Ob Rv Lo Hi) ge x2 o2))), (0, .ref h0), (1, .int (nI k)), (2, .int (nI x2))]) hx hb dX6_places_203 hl (k := 4) rfl (nI_1 _) (by decide) rfl (fun ls hl => ?_)
                                refine lv_goto (tgt := 144) hx hb dX6_places_206 (by decide) ?_
                                have e_b144_0 : (updN (updN ge x2 (gmx (erM Ob Rv Lo Hi) ge x2 o2)) x2 (max (gmx (erM Ob Rv Lo Hi) ge x2 o2) (gv (erM Ob Rv Lo Hi) ge x2 o2))) = (updN ge x2 (gmx (erM Ob Rv Lo Hi) ge x2 (o2 + 1))) := by rw [updN_twice]; rfl
                                exact ih_144 (o2 + 1) (by omega) (by omega) _ _ ls ((hw.perm [3, 4, 5, 6, 7, 0, 1, 2] rfl (by decide)).cast (zc rfl (zc rfl (zc rfl (zc rfl (zc rfl (zc rfl (zc (congrArg (fun z => ((aE, ia E 24 (nA z)) : Nat × va_E)) e_b144_0) rfl)))))))) (lv_add (lv_add (lv_add (lv_add (lv_nil hl) (lv_at hl 0 rfl)) (lv_at hl 4 rfl)) (lv_at hl 3 rfl)) (lv_at hl 2 rfl))
                              refine z_icmp_le hx hb (by omega) (by omega) 196 dX6_places_188 (by decide) (fun c_188 => ?_) (fun c_188 => ?_)
                              · refine lv_aload_n hx hb dX6_places_196 rfl (lv_at hl 1 rfl) ?_
                                refine z_get cx hw 3 9 rfl rfl inlX6 (by decide) wd_77 rfl dX6_places_197 ?_
                                refine lv_iload_n hx hb dX6_places_200 rfl (lv_at hl 3 rfl) ?_
                                refine z_aldN cx hw 1 rfl (x2) rfl (by omega) (by decide) dX6_places_201 ?_
                                rw [updN_eq]
                                exact zSt (zN (by omega)) (j_202 _ _ (hw))
                              · refine lv_iload hx hb dX6_places_191 (lv_at hl 0 rfl) ?_
                                refine lv_goto (tgt := 202) hx hb dX6_places_193 (by decide) ?_
                                exact zSt (zN (by omega)) (j_202 _ _ (hw))
                            refine z_ifb_eq hx hb 172 dX6_places_158 (by decide) (fun c_158 => ?_) (fun c_158 => ?_)
                            · refine lv_iconst (v := nI 0) hx hb dX6_places_172 (by decide) ?_
                              exact zSt (zN (by simp [gv, c_158])) (j_173 _ _ (hw))
                            · refine lv_aload_n hx hb dX6_places_161 rfl (lv_at hl 0 rfl) ?_
                              refine z_get cx hw 3 9 rfl rfl inlX6 (by decide) wd_77 rfl dX6_places_162 ?_
                              refine lv_iload_n hx hb dX6_places_165 rfl (lv_at hl 3 rfl) ?_
                              refine z_aldN cx hw 1 rfl (o2) rfl (by omega) (by decide) dX6_places_166 ?_
                              rw [updN_ne _ _ (erM_ne c_158)]
                              refine lv_iconst (v := nI 1) hx hb dX6_places_167 (by decide) ?_
                              refine z_iadd hx hb ((ge o2) + 1) rfl dX6_places_168 ?_
                              refine lv_goto (tgt := 173) hx hb dX6_places_169 (by decide) ?_
                              exact zSt (zN (by simp [gv, c_158])) (j_173 _ _ (hw))
                      have e_i144_0 : ge = (updN ge x2 (gmx (erM Ob Rv Lo Hi) ge x2 0)) := by exact updN_self ge x2
                      exact loop_144 _ 0 (by omega) (Nat.lt_succ_self _) _ _ ls ((hw).cast (zc rfl (zc rfl (zc rfl (zc rfl (zc rfl (zc rfl (zc (congrArg (fun z => ((aE, ia E 24 (nA z)) : Nat × va_E)) e_i144_0) rfl)))))))) (lv_add (lv_add (lv_add (lv_add (lv_nil hl) (lv_at hl 0 rfl)) (lv_at hl 3 rfl)) (lv_at hl 2 rfl)) (lv_at hl 1 rfl))
                    · refine lv_iconst (v := nI 0) hx hb dX6_places_140 (by decide) ?_
                      have hi0_ : i = 0 := by
                        rcases Nat.eq_zero_or_pos i with q | q
                        · exact q
                        · exact absurd c_50 (by rw [pk_sub (by omega)]; exact nI_pos (by omega))
                      have ez_ : mc - i = mc := by omega
                      rw [ez_] at c_137
                      have hz_ := optI_neg c_137 (fun k9 h9 => by have := lowF_lt h9 (by omega); omega)
                      have hf_ : plS (erM Ob Rv Lo Hi) mc (clrB Pl mc) Od (clrN Ge mc) mc = none := plS_none (i := k + 1) (by simp only [plS, hI, Option.bind_some, hz_, Option.bind_none]) (by omega)
                      exact ret false (pl, od, ge) 141 ls H locs dX6_places_141 (⟨congrArg bI (by rw [hf_]; rfl), fun t ht => by rw [hf_] at ht; cases ht⟩) (hw)
                  · have hi0_ : i ≠ 0 := fun q => c_50 (by rw [q]; decide)
                    obtain ⟨c2, rfl⟩ : ∃ c2, i = c2 + 1 := ⟨i - 1, by omega⟩
                    have hl : lv_has ls 6 [(0, .ref h0), (1, .int (nI k)), (2, .int (optI (lowF (fun x => canM (erM Ob Rv Lo Hi) pl x mc) mc (mc - (c2 + 1))))), (3, .int (nI c2))] := by rw [pk_sub (by omega), Nat.add_sub_cancel] at hl; exact hl
                    refine lv_aload_n hx hb dX6_places_53 rfl (lv_at hl 0 rfl) ?_
                    refine z_get cx hw 0 10 rfl rfl inlX6 (by decide) wd_79 rfl dX6_places_54 ?_
                    refine lv_iload_n hx hb dX6_places_57 rfl (lv_at hl 3 rfl) ?_
                    refine z_zaldB cx hw 7 rfl (c2) rfl (by omega) (by decide) dX6_places_58 ?_
                    have j_67 : ∀ (H : Heap) (locs : List Loc), ZW E A s [(h0, ob 6 [.ref aN, .ref aH, .int (nI ed), .int (nI mc), .ref aO, .ref aR, .ref aL, .ref aG, .ref aT, .ref aE, .ref aB, .ref aV]), (aO, ia E 24 (nA Ob)), (aR, ia E 24 (nA Rv)), (aL, ia E 48 (nA Lo)), (aG, ia E 48 (nA Hi)), (aT, ia E 24 (nA od)), (aE, ia E 24 (nA ge)), (aB, ba E 24 (bA pl))] H locs → W p l e rmX6_places s m args below meth c H locs 0 0 Q (F0 m 67 ls [.int (bI (canM (erM Ob Rv Lo Hi) pl c2 0))]) := by
                      intro H locs hw
                      refine lv_istore (lv' := [(4, .int (bI (canM (erM Ob Rv Lo Hi) pl c2 0))), (0, .ref h0), (1, .int (nI k)), (2, .int (optI (lowF (fun x => canM (erM Ob Rv Lo Hi) pl x mc) mc (mc - (c2 + 1))))), (3, .int (nI c2))]) hx hb dX6_places_67 hl (by decide) rfl (fun ls hl => ?_)
                      refine lv_iconst (v := nI 0) hx hb dX6_places_69 (by decide) ?_
                      refine lv_istore (lv' := [(5, .int (nI 0)), (4, .int (bI (canM (erM Ob Rv Lo Hi) pl c2 0))), (0, .ref h0), (1, .int (nI k)), (2, .int (optI (lowF (fun x => canM (erM Ob Rv Lo Hi) pl x mc) mc (mc - (c2 + 1))))), (3, .int (nI c2))]) hx hb dX6_places_70 hl (by decide) rfl (fun ls hl => ?_)
                      have loop_72 : ∀ (fuel : Nat) (o : Nat) (ho : o ≤ mc) (hm : mc - o < fuel) (H : Heap) (locs : List Loc) (ls : Array Slot), ZW E A s [(h0, ob 6 [.ref aN, .ref aH, .int (nI ed), .int (nI mc), .ref aO, .ref aR, .ref aL, .ref aG, .ref aT, .ref aE, .ref aB, .ref aV]), (aO, ia E 24 (nA Ob)), (aR, ia E 24 (nA Rv)), (aL, ia E 48 (nA Lo)), (aG, ia E 48 (nA Hi)), (aT, ia E 24 (nA od)), (aE, ia E 24 (nA ge)), (aB, ba E 24 (bA pl))] H locs → lv_has ls 6 [(0, .ref h0), (1, .int (nI k)), (2, .int (optI (lowF (fun x => canM (erM Ob Rv Lo Hi) pl x mc) mc (mc - (c2 + 1))))), (3, .int (nI c2)), (4, .int (bI (canM (erM Ob Rv Lo Hi) pl c2 o))), (5, .int (nI o))] → W p l e rmX6_places s m args below meth c H locs 0 0 Q (F0 m 72 ls []) := by
                        intro fuel
                        induction fuel with
                        | zero => intro o ho hm; exact absurd hm (Nat.not_lt_zero _)
                        | succ fuel ih_72 =>
                          intro o ho hm H locs ls hw hl
                          refine lv_iload hx hb dX6_places_72 (lv_at hl 5 rfl) ?_
                          refine lv_aload_n hx hb dX6_places_74 rfl (lv_at hl 0 rfl) ?_
                          refine z_get cx hw 0 3 rfl rfl inlX6 (by decide) wd_283 rfl dX6_places_75 ?_
                          refine z_icmp_ge hx hb (by omega) (by omega) 119 dX6_places_78 (by decide) (fun c_78 => ?_) (fun c_78 => ?_)
                          · refine lv_iload hx hb dX6_places_119 (lv_at hl 4 rfl) ?_
                            have eo_ : o = mc := by omega
                            have j_129 : ∀ (H : Heap) (locs : List Loc), ZW E A s [(h0, ob 6 [.ref aN, .ref aH, .int (nI ed), .int (nI mc), .ref aO, .ref aR, .ref aL, .ref aG, .ref aT, .ref aE, .ref aB, .ref aV]), (aO, ia E 24 (nA Ob)), (aR, ia E 24 (nA Rv)), (aL, ia E 48 (nA Lo)), (aG, ia E 48 (nA Hi)), (aT, ia E 24 (nA od)), (aE, ia E 24 (nA ge)), (aB, ba E 24 (bA pl))] H locs → W p l e rmX6_places s m args below meth c H locs 0 0 Q (F0 m 129 ls [.int (optI (lowF (fun x => canM (erM Ob Rv Lo Hi) pl x mc) mc (mc - c2)))]) := by
                              intro H locs hw
                              refine lv_istore_n (lv' := [(2, .int (optI (lowF (fun x => canM (erM Ob Rv Lo Hi) pl x mc) mc (mc - c2)))), (0, .ref h0), (1, .int (nI k)), (3, .int (nI c2)), (4, .int (bI (canM (erM Ob Rv Lo Hi) pl c2 o))), (5, .int (nI o))]) hx hb dX6_places_129 rfl hl (by decide) rfl (fun ls hl => ?_)
                              refine lv_iinc (v := nI c2 - nI 1) (lv' := [(3, .int (nI c2 - nI 1)), (2, .int (optI (lowF (fun x => canM (erM Ob Rv Lo Hi) pl x mc) mc (mc - c2)))), (0, .ref h0), (1, .int (nI k)), (4, .int (bI (canM (erM Ob Rv Lo Hi) pl c2 o))), (5, .int (nI o))]) hx hb dX6_places_130 hl (k := 3) rfl (z_decr _) (by decide) rfl (fun ls hl => ?_)
                              refine lv_goto (tgt := 49) hx hb dX6_places_133 (by decide) ?_
                              exact ih_49 c2 (by omega) (by omega) _ _ ls (hw) (lv_add (lv_add (lv_add (lv_add (lv_nil hl) (lv_at hl 0 rfl)) (lv_at hl 1 rfl)) (lv_at hl 3 rfl)) (lv_at hl 2 rfl))
                            refine z_ifb_eq hx hb 128 dX6_places_121 (by decide) (fun c_121 => ?_) (fun c_121 => ?_)
                            · refine lv_iload_n hx hb dX6_places_128 rfl (lv_at hl 2 rfl) ?_
                              exact zSt (zI (by rw [lowF_s _ (show c2 < mc by omega), if_neg (by rw [← eo_, c_121]; decide)])) (j_129 _ _ (hw))
                            · refine lv_iload_n hx hb dX6_places_124 rfl (lv_at hl 3 rfl) ?_
                              refine lv_goto (tgt := 129) hx hb dX6_places_125 (by decide) ?_
                              exact zSt (zI (by rw [lowF_s _ (show c2 < mc by omega), if_pos (by rw [← eo_]; exact c_121)]; rfl)) (j_129 _ _ (hw))
                          · refine lv_iload hx hb dX6_places_81 (lv_at hl 4 rfl) ?_
                            have j_111 : ∀ (H : Heap) (locs : List Loc), ZW E A s [(h0, ob 6 [.ref aN, .ref aH, .int (nI ed), .int (nI mc), .ref aO, .ref aR, .ref aL, .ref aG, .ref aT, .ref aE, .ref aB, .ref aV]), (aO, ia E 24 (nA Ob)), (aR, ia E 24 (nA Rv)), (aL, ia E 48 (nA Lo)), (aG, ia E 48 (nA Hi)), (aT, ia E 24 (nA od)), (aE, ia E 24 (nA ge)), (aB, ba E 24 (bA pl))] H locs → W p l e rmX6_places s m args below meth c H locs 0 0 Q (F0 m 111 ls [.int (bI (canM (erM Ob Rv Lo Hi) pl c2 (o + 1)))]) := by
                              intro H locs hw
                              refine lv_istore (lv' := [(4, .int (bI (canM (erM Ob Rv Lo Hi) pl c2 (o + 1)))), (0, .ref h0), (1, .int (nI k)), (2, .int (optI (lowF (fun x => canM (erM Ob Rv Lo Hi) pl x mc) mc (mc - (c2 + 1))))), (3, .int (nI c2)), (5, .int (nI o))]) hx hb dX6_places_111 hl (by decide) rfl (fun ls hl => ?_)
                              refine lv_iinc (v := nI (o + 1)) (lv' := [(5, .int (nI (o + 1))), (4, .int (bI (canM (erM Ob Rv Lo Hi) pl c2 (o + 1)))), (0, .ref h0), (1, .int (nI k)), (2, .int (optI (lowF (fun x => canM (erM Ob Rv Lo Hi) pl x mc) mc (mc - (c2 + 1))))), (3, .int (nI c2))]) hx hb dX6_places_113 hl (k := 5) rfl (nI_1 _) (by decide) rfl (fun ls hl => ?_)
                              refine lv_goto (tgt := 72) hx hb dX6_places_116 (by decide) ?_
                              exact ih_72 (o + 1) (by omega) (by omega) _ _ ls (hw) (lv_add (lv_add (lv_add (lv_add (lv_add (lv_add (lv_nil hl) (lv_at hl 0 rfl)) (lv_at hl 1 rfl)) (lv_at hl 5 rfl)) (lv_at hl 4 rfl)) (lv_at hl 3 rfl)) (lv_at hl 2 rfl))
                            refine z_ifb_eq hx hb 110 dX6_places_83 (by decide) (fun c_83 => ?_) (fun c_83 => ?_)
                            · refine lv_iconst (v := nI 0) hx hb dX6_places_110 (by decide) ?_
                              exact zSt (zNB0 (by simp [canM, c_83])) (j_111 _ _ (hw))
                            · refine lv_aload_n hx hb dX6_places_86 rfl (lv_at hl 0 rfl) ?_
                              refine z_get cx hw 0 10 rfl rfl inlX6 (by decide) wd_79 rfl dX6_places_87 ?_
                              refine lv_iload hx hb dX6_places_90 (lv_at hl 5 rfl) ?_
                              refine z_zaldB cx hw 7 rfl (o) rfl (by omega) (by decide) dX6_places_92 ?_
                              refine z_ifb_ne hx hb 106 dX6_places_93 (by decide) (fun c_93 => ?_) (fun c_93 => ?_)
                              · refine lv_iconst (v := nI 1) hx hb dX6_places_106 (by decide) ?_
                                refine lv_goto (tgt := 111) hx hb dX6_places_107 (by decide) ?_
                                exact zSt (zNB1 (by simp [canM, c_83, c_93])) (j_111 _ _ (hw))
                              · refine lv_aload_n hx hb dX6_places_96 rfl (lv_at hl 0 rfl) ?_
                                refine lv_iload hx hb dX6_places_97 (lv_at hl 5 rfl) ?_
                                refine lv_iload_n hx hb dX6_places_99 rfl (lv_at hl 3 rfl) ?_
                                refine z_ri0 (wr := [(aT, ia E 24 (nA od)), (aE, ia E 24 (nA ge)), (aB, ba E 24 (bA pl))]) cx hw [0, 1, 2, 3, 4] [5, 6, 7] rfl rfl (by decide) (by decide) rfl rfl (z_runV (As := [.int (nI o), .int (nI c2)]) (rest := []) cx hw rfl rfl [0, 1, 2, 3, 4] rfl rfl (c_X6_isEarlier l E h0 aN aH aO aR aL aG aT aE aB aV ed mc Ob Rv Lo Hi o c2 (by omega) (by omega) (hB) H.size) mf_X6_isEarlier wd_395 ⟨Nat.le_of_ble_eq_true rfl, Nat.le_of_ble_eq_true rfl⟩ hl (Nat.le_of_ble_eq_true rfl) dX6_places_100 ⟨Nat.le_of_ble_eq_true rfl, Nat.le_of_ble_eq_true rfl⟩) (fun r _ H locs hp hw => ?_)
                                have hr_100 := hp
                                have hr_100 : r = bI (erM Ob Rv Lo Hi o c2) := hr_100
                                subst hr_100
                                have hw : ZW E A s [(aT, ia E 24 (nA od)), (aE, ia E 24 (nA ge)), (aB, ba E 24 (bA pl)), (h0, ob 6 [.ref aN, .ref aH, .int (nI ed), .int (nI mc), .ref aO, .ref aR, .ref aL, .ref aG, .ref aT, .ref aE, .ref aB, .ref aV]), (aO, ia E 24 (nA Ob)), (aR, ia E 24 (nA Rv)), (aL, ia E 48 (nA Lo)), (aG, ia E 48 (nA Hi))] H locs := hw
                                refine z_ifb_ne hx hb 110 dX6_places_103 (by decide) (fun c_103 => ?_) (fun c_103 => ?_)
                                · refine lv_iconst (v := nI 0) hx hb dX6_places_110 (by decide) ?_
                                  exact zSt (zNB0 (by simp [canM, c_83, c_93, c_103])) (j_111 _ _ (hw.perm [3, 4, 5, 6, 7, 0, 1, 2] rfl (by decide)))
                                · refine lv_iconst (v := nI 1) hx hb dX6_places_106 (by decide) ?_
                                  refine lv_goto (tgt := 111) hx hb dX6_places_107 (by decide) ?_
                                  exact zSt (zNB1 (by simp [canM, c_83, c_93, c_103])) (j_111 _ _ (hw.perm [3, 4, 5, 6, 7, 0, 1, 2] rfl (by decide)))
                      exact loop_72 _ 0 (by omega) (Nat.lt_succ_self _) _ _ ls (hw) (lv_add (lv_add (lv_add (lv_add (lv_add (lv_add (lv_nil hl) (lv_at hl 0 rfl)) (lv_at hl 1 rfl)) (lv_at hl 5 rfl)) (lv_at hl 4 rfl)) (lv_at hl 3 rfl)) (lv_at hl 2 rfl))
                    refine z_ifb_ne hx hb 66 dX6_places_59 (by decide) (fun c_59 => ?_) (fun c_59 => ?_)
                    · refine lv_iconst (v := nI 0) hx hb dX6_places_66 (by decide) ?_
                      exact zSt (zNB0 (by simp [canM, c_59])) (j_67 _ _ (hw))
                    · refine lv_iconst (v := nI 1) hx hb dX6_places_62 (by decide) ?_
                      refine lv_goto (tgt := 67) hx hb dX6_places_63 (by decide) ?_
                      exact zSt (zNB1 (by simp [canM, c_59])) (j_67 _ _ (hw))
              exact loop_49 _ mc (by omega) (Nat.lt_succ_self _) _ _ ls (hw) (lv_add (lv_add (lv_add (lv_add (lv_nil hl) (lv_eqv (lv_at hl 0 rfl) (zI (by rfl)))) (lv_eqv (lv_at hl 1 rfl) (zI (by rw [Nat.sub_self]; rfl)))) (lv_at hl 3 rfl)) (lv_at hl 2 rfl))
        have e_i32_0 : (clrN Ge j0) = (clrN Ge mc) := by rw [ej_]
        have e_i32_1 : (bA (clrB Pl j0)) = (bA (clrB Pl mc)) := by rw [ej_]
        exact loop_32 _ 0 (clrB Pl mc) Od (clrN Ge mc) (by omega) (rfl) (fun x hx => by simp [clrN, hx]) (Nat.lt_succ_self _) _ _ ls ((hw).cast (zc rfl (zc rfl (zc rfl (zc rfl (zc rfl (zc rfl (zc (congrArg (fun z => ((aE, ia E 24 (nA z)) : Nat × va_E)) e_i32_0) (zc (congrArg (fun z => ((aB, ba E 24 z) : Nat × va_E)) e_i32_1) rfl))))))))) (lv_add (lv_add (lv_nil hl) (lv_at hl 0 rfl)) (lv_at hl 1 rfl))
      · refine lv_aload_n hx hb dX6_places_10 rfl (lv_at hl 0 rfl) ?_
        refine z_get cx hw 0 10 rfl rfl inlX6 (by decide) wd_79 rfl dX6_places_11 ?_
        refine lv_iload_n hx hb dX6_places_14 rfl (lv_at hl 1 rfl) ?_
        refine lv_iconst (v := nI 0) hx hb dX6_places_15 (by decide) ?_
        refine z_zastB (b := false) cx hw 7 rfl (j0) rfl (by omega) (by decide) dX6_places_16 (fun H locs hw => ?_)
        have hw : ZW E A s [(h0, ob 6 [.ref aN, .ref aH, .int (nI ed), .int (nI mc), .ref aO, .ref aR, .ref aL, .ref aG, .ref aT, .ref aE, .ref aB, .ref aV]), (aO, ia E 24 (nA Ob)), (aR, ia E 24 (nA Rv)), (aL, ia E 48 (nA Lo)), (aG, ia E 48 (nA Hi)), (aT, ia E 24 (nA Od)), (aE, ia E 24 (nA (clrN Ge j0))), (aB, ba E 24 (bA (updB (clrB Pl j0) j0 false)))] H locs := hw
        refine lv_aload_n hx hb dX6_places_17 rfl (lv_at hl 0 rfl) ?_
        refine z_get cx hw 0 9 rfl rfl inlX6 (by decide) wd_77 rfl dX6_places_18 ?_
        refine lv_iload_n hx hb dX6_places_21 rfl (lv_at hl 1 rfl) ?_
        refine lv_iconst (v := nI 0) hx hb dX6_places_22 (by decide) ?_
        refine z_astN cx hw 6 rfl (j0) rfl (by omega) (by decide) dX6_places_23 (fun H locs hw => ?_)
        have hw : ZW E A s [(h0, ob 6 [.ref aN, .ref aH, .int (nI ed), .int (nI mc), .ref aO, .ref aR, .ref aL, .ref aG, .ref aT, .ref aE, .ref aB, .ref aV]), (aO, ia E 24 (nA Ob)), (aR, ia E 24 (nA Rv)), (aL, ia E 48 (nA Lo)), (aG, ia E 48 (nA Hi)), (aT, ia E 24 (nA Od)), (aE, ia E 24 (nA (updN (clrN Ge j0) j0 0))), (aB, ba E 24 (bA (updB (clrB Pl j0) j0 false)))] H locs := hw
        refine lv_iinc (v := nI (j0 + 1)) (lv' := [(1, .int (nI (j0 + 1))), (0, .ref h0)]) hx hb dX6_places_24 hl (k := 1) rfl (nI_1 _) (by decide) rfl (fun ls hl => ?_)
        refine lv_goto (tgt := 2) hx hb dX6_places_27 (by decide) ?_
        have e_b2_0 : (updN (clrN Ge j0) j0 0) = (clrN Ge (j0 + 1)) := by rw [clrN_s]
        have e_b2_1 : (bA (updB (clrB Pl j0) j0 false)) = (bA (clrB Pl (j0 + 1))) := by rw [clrB_s]
        exact ih_2 (j0 + 1) (by omega) (by omega) _ _ ls ((hw).cast (zc rfl (zc rfl (zc rfl (zc rfl (zc rfl (zc rfl (zc (congrArg (fun z => ((aE, ia E 24 (nA z)) : Nat × va_E)) e_b2_0) (zc (congrArg (fun z => ((aB, ba E 24 z) : Nat × va_E)) e_b2_1) rfl))))))))) (lv_add (lv_add (lv_nil hl) (lv_at hl 0 rfl)) (lv_at hl 1 rfl))
  have e_i2_0 : Ge = (clrN Ge 0) := by rw [← clrN_0]
  have e_i2_1 : (bA Pl) = (bA (clrB Pl 0)) := by rw [← clrB_0]
  exact loop_2 _ 0 (by omega) (Nat.lt_succ_self _) _ _ ls ((hw).cast (zc rfl (zc rfl (zc rfl (zc rfl (zc rfl (zc rfl (zc (congrArg (fun z => ((aE, ia E 24 (nA z)) : Nat × va_E)) e_i2_0) (zc (congrArg (fun z => ((aB, ba E 24 z) : Nat × va_E)) e_i2_1) rfl))))))))) (lv_add (lv_add (lv_nil hl) (lv_at hl 0 rfl)) (lv_at hl 1 rfl))

def rmX6_isConsistent : Room := { frames := 3, cells := 0, slots := 0, locals := 70 }
set_option maxHeartbeats 4000000 in
set_option maxRecDepth 100000 in
theorem c_X6_isConsistent (l : Launch) (E : ZE) (h0 aN aH aO aR aL aG aT aE aB aV : Nat) (ed mc : Nat) (Nw : Nat → Nat) (Ob Rv Lo Hi : Nat → Nat) (Od Ge : Nat → Nat) (Pl : Nat → Bool) (hn : Nw 96 ≤ 24) (hF : ∀ j, j < 96 → Nw j < 10) (hW : ∀ k sd, k < 24 → sd < 2 → Nw (4 * k + 2 + sd) ≤ 5) (hB : Bd Ob ∧ Bd Rv ∧ Bd Lo ∧ Bd Hi) : ZMi l yX6_isConsistent cX6_isConsistent 1 (some .int) rmX6_isConsistent E [.ref h0] [(h0, ob 6 [.ref aN, .ref aH, .int (nI ed), .int (nI mc), .ref aO, .ref aR, .ref aL, .ref aG, .ref aT, .ref aE, .ref aB, .ref aV]), (aN, ia E 97 (nA Nw)), (aO, ia E 24 (nA Ob)), (aR, ia E 24 (nA Rv)), (aL, ia E 48 (nA Lo)), (aG, ia E 48 (nA Hi)), (aT, ia E 24 (nA Od)), (aE, ia E 24 (nA Ge)), (aB, ba E 24 (bA Pl))] (S := (Nat → Nat) × (Nat → Nat) × (Nat → Nat) × (Nat → Nat) × (Nat → Bool) × (Nat → Nat) × (Nat → Nat)) (fun r u => r = bI ((plS (erM u.1 u.2.1 u.2.2.1 u.2.2.2.1) (rk (hasP Nw (Nw 96)) 100) (clrB Pl (rk (hasP Nw (Nw 96)) 100)) Od (clrN Ge (rk (hasP Nw (Nw 96)) 100)) (rk (hasP Nw (Nw 96)) 100)).isSome) ∧ FI Nw (Nw 96) 100 u.1 u.2.1 u.2.2.1 u.2.2.2.1 ∧ Bd u.1 ∧ Bd u.2.1 ∧ Bd u.2.2.1 ∧ Bd u.2.2.2.1) (fun u => [(h0, ob 6 [.ref aN, .ref aH, .int (nI ed), .int (nI (rk (hasP Nw (Nw 96)) 100)), .ref aO, .ref aR, .ref aL, .ref aG, .ref aT, .ref aE, .ref aB, .ref aV]), (aN, ia E 97 (nA Nw)), (aO, ia E 24 (nA u.1)), (aR, ia E 24 (nA u.2.1)), (aL, ia E 48 (nA u.2.2.1)), (aG, ia E 48 (nA u.2.2.2.1)), (aT, ia E 24 (nA u.2.2.2.2.2.1)), (aE, ia E 24 (nA u.2.2.2.2.2.2)), (aB, ba E 24 (bA u.2.2.2.2.1))]) := by
  refine z_mi (by decide) (Nat.le_of_ble_eq_true rfl) ?_
  intro p e s m args below meth c A Q ls cx hin hw hl ret
  obtain ⟨hx, hb, hml, hown, hts, hK, hN, hA, hlk⟩ := id cx
  have hl : lv_has ls 1 [(0, .ref h0)] := hl
  refine lv_aload_n hx hb dX6_isConsistent_0 rfl (lv_at hl 0 rfl) ?_
  refine z_rv0 (wr := [(aT, ia E 24 (nA Od)), (aE, ia E 24 (nA Ge)), (aB, ba E 24 (bA Pl))]) cx hw [0, 1, 2, 3, 4, 5] [6, 7, 8] rfl rfl (by decide) (by decide) rfl rfl (z_runV (As := []) (rest := []) cx hw rfl rfl [0, 1, 2, 3, 4, 5] rfl rfl (c_X6_finds l E h0 aN aH aO aR aL aG aT aE aB aV ed mc Nw Ob Rv Lo Hi (by omega) (hF) (hW) (hB) s.heap.size) mf_X6_finds wd_284 ⟨Nat.le_of_ble_eq_true rfl, Nat.le_of_ble_eq_true rfl⟩ hl (Nat.le_of_ble_eq_true rfl) dX6_isConsistent_1 ⟨Nat.le_of_ble_eq_true rfl, Nat.le_of_ble_eq_true rfl⟩) (fun u H locs hp hw => ?_)
  obtain ⟨Ob, Rv, Lo, Hi⟩ := u
  have hp_1 : FI Nw (Nw 96) 100 Ob Rv Lo Hi ∧ Bd Ob ∧ Bd Rv ∧ Bd Lo ∧ Bd Hi := hp
  have hw : ZW E A s [(aT, ia E 24 (nA Od)), (aE, ia E 24 (nA Ge)), (aB, ba E 24 (bA Pl)), (h0, ob 6 [.ref aN, .ref aH, .int (nI ed), .int (nI (rk (hasP Nw (Nw 96)) 100)), .ref aO, .ref aR, .ref aL, .ref aG, .ref aT, .ref aE, .ref aB, .ref aV]), (aN, ia E 97 (nA Nw)), (aO, ia E 24 (nA Ob)), (aR, ia E 24 (nA Rv)), (aL, ia E 48 (nA Lo)), (aG, ia E 48 (nA Hi))] H locs := hw
  have hmm_ := rk_hasP Nw (Nw 96) 100
  refine lv_aload_n hx hb dX6_isConsistent_4 rfl (lv_at hl 0 rfl) ?_
  refine z_ri0 (wr := [(aN, ia E 97 (nA Nw))]) cx hw [3, 5, 6, 7, 8, 0, 1, 2] [4] rfl rfl (by decide) (by decide) rfl rfl (z_runV (As := []) (rest := []) cx hw rfl rfl [3, 5, 6, 7, 8, 0, 1, 2] rfl rfl (c_X6_places l E h0 aN aH aO aR aL aG aT aE aB aV ed (rk (hasP Nw (Nw 96)) 100) Ob Rv Lo Hi Od Ge Pl (by omega) (hp_1.2) H.size) mf_X6_places wd_428 ⟨Nat.le_of_ble_eq_true rfl, Nat.le_of_ble_eq_true rfl⟩ hl (Nat.le_of_ble_eq_true rfl) dX6_isConsistent_5 ⟨Nat.le_of_ble_eq_true rfl, Nat.le_of_ble_eq_true rfl⟩) (fun r u H locs hp hw => ?_)
  obtain ⟨P2, O2, G2⟩ := u
  obtain ⟨hr_5, hp_5⟩ := hp
  have hr_5 : r = bI ((plS (erM Ob Rv Lo Hi) (rk (hasP Nw (Nw 96)) 100) (clrB Pl (rk (hasP Nw (Nw 96)) 100)) Od (clrN Ge (rk (hasP Nw (Nw 96)) 100)) (rk (hasP Nw (Nw 96)) 100)).isSome) := hr_5
  subst hr_5
  have hp_5 : ∀ t, plS (erM Ob Rv Lo Hi) (rk (hasP Nw (Nw 96)) 100) (clrB Pl (rk (hasP Nw (Nw 96)) 100)) Od (clrN Ge (rk (hasP Nw (Nw 96)) 100)) (rk (hasP Nw (Nw 96)) 100) = some t → O2 = t.2.1 ∧ G2 = t.2.2 := hp_5
  have hw : ZW E A s [(aN, ia E 97 (nA Nw)), (h0, ob 6 [.ref aN, .ref aH, .int (nI ed), .int (nI (rk (hasP Nw (Nw 96)) 100)), .ref aO, .ref aR, .ref aL, .ref aG, .ref aT, .ref aE, .ref aB, .ref aV]), (aO, ia E 24 (nA Ob)), (aR, ia E 24 (nA Rv)), (aL, ia E 48 (nA Lo)), (aG, ia E 48 (nA Hi)), (aT, ia E 24 (nA O2)), (aE, ia E 24 (nA G2)), (aB, ba E 24 (bA P2))] H locs := hw
  refine z_ifb_eq hx hb 15 dX6_isConsistent_8 (by decide) (fun c_8 => ?_) (fun c_8 => ?_)
  · refine lv_iconst (v := nI 0) hx hb dX6_isConsistent_15 (by decide) ?_
    exact ret (nI 0) (Ob, Rv, Lo, Hi, P2, O2, G2) 16 ls H locs dX6_isConsistent_16 (⟨by rw [c_8]; rfl, hp_1⟩) (hw.perm [1, 0, 2, 3, 4, 5, 6, 7, 8] rfl (by decide))
  · refine lv_iconst (v := nI 1) hx hb dX6_isConsistent_11 (by decide) ?_
    refine lv_goto (tgt := 16) hx hb dX6_isConsistent_12 (by decide) ?_
    exact ret (nI 1) (Ob, Rv, Lo, Hi, P2, O2, G2) 16 ls H locs dX6_isConsistent_16 (⟨by rw [c_8]; rfl, hp_1⟩) (hw.perm [1, 0, 2, 3, 4, 5, 6, 7, 8] rfl (by decide))

def rmX6_coupleInOrder : Room := { frames := 3, cells := 0, slots := 0, locals := 70 }
set_option maxHeartbeats 4000000 in
set_option maxRecDepth 100000 in
theorem c_X6_coupleInOrder (l : Launch) (E : ZE) (h0 aN aH aO aR aL aG aT aE aB aV : Nat) (ed mc : Nat) (Nw : Nat → Nat) (Ob Rv Lo Hi : Nat → Nat) (Od Ge : Nat → Nat) (Pl : Nat → Bool) (x : Int32) (hn : Nw 96 ≤ 24) (hF : ∀ j, j < 96 → Nw j < 10) (hW : ∀ k sd, k < 24 → sd < 2 → Nw (4 * k + 2 + sd) ≤ 5) (hB : Bd Ob ∧ Bd Rv ∧ Bd Lo ∧ Bd Hi) : ZMi l yX6_coupleInOrder cX6_coupleInOrder 2 (some .int) rmX6_coupleInOrder E [.ref h0, .int x] [(h0, ob 6 [.ref aN, .ref aH, .int (nI ed), .int (nI mc), .ref aO, .ref aR, .ref aL, .ref aG, .ref aT, .ref aE, .ref aB, .ref aV]), (aN, ia E 97 (nA Nw)), (aO, ia E 24 (nA Ob)), (aR, ia E 24 (nA Rv)), (aL, ia E 48 (nA Lo)), (aG, ia E 48 (nA Hi)), (aT, ia E 24 (nA Od)), (aE, ia E 24 (nA Ge)), (aB, ba E 24 (bA Pl))] (S := (Nat → Nat) × (Nat → Nat) × (Nat → Nat) × (Nat → Nat) × Nat × (Nat → Bool) × (Nat → Nat) × (Nat → Nat) × (Nat → Nat)) (fun r u => (x < 0 ∧ r = -1 ∨ 0 ≤ x ∧ inR x (rk (hasP Nw (Nw 96)) 100) = false ∧ r = -3 ∨ 0 ≤ x ∧ inR x (rk (hasP Nw (Nw 96)) 100) = true ∧ FI Nw (Nw 96) 100 u.1 u.2.1 u.2.2.1 u.2.2.2.1 ∧ (∀ t, plS (erM u.1 u.2.1 u.2.2.1 u.2.2.2.1) (rk (hasP Nw (Nw 96)) 100) (clrB Pl (rk (hasP Nw (Nw 96)) 100)) Od (clrN Ge (rk (hasP Nw (Nw 96)) 100)) (rk (hasP Nw (Nw 96)) 100) = some t → u.2.2.2.2.2.2.2.2 = t.2.1) ∧ r = (if (plS (erM u.1 u.2.1 u.2.2.1 u.2.2.2.1) (rk (hasP Nw (Nw 96)) 100) (clrB Pl (rk (hasP Nw (Nw 96)) 100)) Od (clrN Ge (rk (hasP Nw (Nw 96)) 100)) (rk (hasP Nw (Nw 96)) 100)).isSome = true then nI (u.2.2.2.2.2.2.2.2 (cl x)) else (-4))) ∧ Bd u.1 ∧ Bd u.2.1 ∧ Bd u.2.2.1 ∧ Bd u.2.2.2.1) (fun u => [(h0, ob 6 [.ref aN, .ref aH, .int (nI ed), .int (nI u.2.2.2.2.1), .ref aO, .ref aR, .ref aL, .ref aG, .ref aT, .ref aE, .ref aB, .ref aV]), (aN, ia E 97 (nA Nw)), (aO, ia E 24 (nA u.1)), (aR, ia E 24 (nA u.2.1)), (aL, ia E 48 (nA u.2.2.1)), (aG, ia E 48 (nA u.2.2.2.1)), (aT, ia E 24 (nA u.2.2.2.2.2.2.1)), (aE, ia E 24 (nA u.2.2.2.2.2.2.2.1)), (aB, ba E 24 (bA u.2.2.2.2.2.1))]) := by
  refine z_mi (by decide) (Nat.le_of_ble_eq_true rfl) ?_
  intro p e s m args below meth c A Q ls cx hin hw hl ret
  obtain ⟨hx, hb, hml, hown, hts, hK, hN, hA, hlk⟩ := id cx
  have hl : lv_has ls 2 [(0, .ref h0), (1, .int x)] := hl
  refine lv_iload_n hx hb dX6_coupleInOrder_0 rfl (lv_at hl 1 rfl) ?_
  refine lv_if_ge (tgt := 6) hx hb dX6_coupleInOrder_1 (by decide) (fun c_1 => ?_) (fun c_1 => ?_)
  · refine lv_aload_n hx hb dX6_coupleInOrder_6 rfl (lv_at hl 0 rfl) ?_
    refine z_rv0 (wr := [(aT, ia E 24 (nA Od)), (aE, ia E 24 (nA Ge)), (aB, ba E 24 (bA Pl))]) cx hw [0, 1, 2, 3, 4, 5] [6, 7, 8] rfl rfl (by decide) (by decide) rfl rfl (z_runV (As := []) (rest := []) cx hw rfl rfl [0, 1, 2, 3, 4, 5] rfl rfl (c_X6_finds l E h0 aN aH aO aR aL aG aT aE aB aV ed mc Nw Ob Rv Lo Hi (by omega) (hF) (hW) (hB) s.heap.size) mf_X6_finds wd_284 ⟨Nat.le_of_ble_eq_true rfl, Nat.le_of_ble_eq_true rfl⟩ hl (Nat.le_of_ble_eq_true rfl) dX6_coupleInOrder_7 ⟨Nat.le_of_ble_eq_true rfl, Nat.le_of_ble_eq_true rfl⟩) (fun u H locs hp hw => ?_)
    obtain ⟨Ob, Rv, Lo, Hi⟩ := u
    have hp_7 : FI Nw (Nw 96) 100 Ob Rv Lo Hi ∧ Bd Ob ∧ Bd Rv ∧ Bd Lo ∧ Bd Hi := hp
    have hw : ZW E A s [(aT, ia E 24 (nA Od)), (aE, ia E 24 (nA Ge)), (aB, ba E 24 (bA Pl)), (h0, ob 6 [.ref aN, .ref aH, .int (nI ed), .int (nI (rk (hasP Nw (Nw 96)) 100)), .ref aO, .ref aR, .ref aL, .ref aG, .ref aT, .ref aE, .ref aB, .ref aV]), (aN, ia E 97 (nA Nw)), (aO, ia E 24 (nA Ob)), (aR, ia E 24 (nA Rv)), (aL, ia E 48 (nA Lo)), (aG, ia E 48 (nA Hi))] H locs := hw
    have hmm_ := rk_hasP Nw (Nw 96) 100
    refine lv_iload_n hx hb dX6_coupleInOrder_10 rfl (lv_at hl 1 rfl) ?_
    refine lv_aload_n hx hb dX6_coupleInOrder_11 rfl (lv_at hl 0 rfl) ?_
    refine z_get cx hw 3 3 rfl rfl inlX6 (by decide) wd_283 rfl dX6_coupleInOrder_12 ?_
    refine lv_icmp_lt (tgt := 21) hx hb dX6_coupleInOrder_15 (by decide) (fun c_15 => ?_) (fun c_15 => ?_)
    · have hI_ : inR x (rk (hasP Nw (Nw 96)) 100) = true := inR_in (by omega) (Int32.not_lt.mpr c_1) (Int32.not_le.mpr c_15)
      obtain ⟨k, hk, rfl⟩ := inR_get hI_ (by omega)
      refine lv_aload_n hx hb dX6_coupleInOrder_21 rfl (lv_at hl 0 rfl) ?_
      refine z_ri0 (wr := [(aN, ia E 97 (nA Nw))]) cx hw [3, 5, 6, 7, 8, 0, 1, 2] [4] rfl rfl (by decide) (by decide) rfl rfl (z_runV (As := []) (rest := []) cx hw rfl rfl [3, 5, 6, 7, 8, 0, 1, 2] rfl rfl (c_X6_places l E h0 aN aH aO aR aL aG aT aE aB aV ed (rk (hasP Nw (Nw 96)) 100) Ob Rv Lo Hi Od Ge Pl (by omega) (hp_7.2) H.size) mf_X6_places wd_428 ⟨Nat.le_of_ble_eq_true rfl, Nat.le_of_ble_eq_true rfl⟩ hl (Nat.le_of_ble_eq_true rfl) dX6_coupleInOrder_22 ⟨Nat.le_of_ble_eq_true rfl, Nat.le_of_ble_eq_true rfl⟩) (fun r u H locs hp hw => ?_)
      obtain ⟨P2, O2, G2⟩ := u
      obtain ⟨hr_22, hp_22⟩ := hp
      have hr_22 : r = bI ((plS (erM Ob Rv Lo Hi) (rk (hasP Nw (Nw 96)) 100) (clrB Pl (rk (hasP Nw (Nw 96)) 100)) Od (clrN Ge (rk (hasP Nw (Nw 96)) 100)) (rk (hasP Nw (Nw 96)) 100)).isSome) := hr_22
      subst hr_22
      have hp_22 : ∀ t, plS (erM Ob Rv Lo Hi) (rk (hasP Nw (Nw 96)) 100) (clrB Pl (rk (hasP Nw (Nw 96)) 100)) Od (clrN Ge (rk (hasP Nw (Nw 96)) 100)) (rk (hasP Nw (Nw 96)) 100) = some t → O2 = t.2.1 ∧ G2 = t.2.2 := hp_22
      have hw : ZW E A s [(aN, ia E 97 (nA Nw)), (h0, ob 6 [.ref aN, .ref aH, .int (nI ed), .int (nI (rk (hasP Nw (Nw 96)) 100)), .ref aO, .ref aR, .ref aL, .ref aG, .ref aT, .ref aE, .ref aB, .ref aV]), (aO, ia E 24 (nA Ob)), (aR, ia E 24 (nA Rv)), (aL, ia E 48 (nA Lo)), (aG, ia E 48 (nA Hi)), (aT, ia E 24 (nA O2)), (aE, ia E 24 (nA G2)), (aB, ba E 24 (bA P2))] H locs := hw
      refine z_ifb_eq hx hb 37 dX6_coupleInOrder_25 (by decide) (fun c_25 => ?_) (fun c_25 => ?_)
      · refine lv_bipush (v := (-4)) hx hb dX6_coupleInOrder_37 (by decide) ?_
        exact ret ((-4)) (Ob, Rv, Lo, Hi, rk (hasP Nw (Nw 96)) 100, P2, O2, G2, O2) 39 ls H locs dX6_coupleInOrder_39 (⟨Or.inr (Or.inr ⟨c_1, hI_, hp_7.1, fun t ht => (hp_22 t ht).1, by rw [c_25, cl_nI hk (by omega)]; rfl⟩), hp_7.2⟩) (hw.perm [1, 0, 2, 3, 4, 5, 6, 7, 8] rfl (by decide))
      · refine lv_aload_n hx hb dX6_coupleInOrder_28 rfl (lv_at hl 0 rfl) ?_
        refine z_get cx hw 1 8 rfl rfl inlX6 (by decide) wd_76 rfl dX6_coupleInOrder_29 ?_
        refine lv_iload_n hx hb dX6_coupleInOrder_32 rfl (lv_at hl 1 rfl) ?_
        refine z_aldN cx hw 6 rfl (k) rfl (by omega) (by decide) dX6_coupleInOrder_33 ?_
        refine lv_goto (tgt := 39) hx hb dX6_coupleInOrder_34 (by decide) ?_
        exact ret (nI (O2 k)) (Ob, Rv, Lo, Hi, rk (hasP Nw (Nw 96)) 100, P2, O2, G2, O2) 39 ls H locs dX6_coupleInOrder_39 (⟨Or.inr (Or.inr ⟨c_1, hI_, hp_7.1, fun t ht => (hp_22 t ht).1, by rw [c_25, cl_nI hk (by omega)]; rfl⟩), hp_7.2⟩) (hw.perm [1, 0, 2, 3, 4, 5, 6, 7, 8] rfl (by decide))
    · refine lv_bipush (v := (-3)) hx hb dX6_coupleInOrder_18 (by decide) ?_
      exact ret ((-3)) (Ob, Rv, Lo, Hi, rk (hasP Nw (Nw 96)) 100, Pl, Od, Ge, Od) 20 ls H locs dX6_coupleInOrder_20 (⟨Or.inr (Or.inl ⟨c_1, inR_ge (by omega) (Int32.not_lt.mp c_15), rfl⟩), hp_7.2⟩) (hw.perm [3, 4, 5, 6, 7, 8, 0, 1, 2] rfl (by decide))
  · refine lv_iconst (v := (-1)) hx hb dX6_coupleInOrder_4 (by decide) ?_
    exact ret ((-1)) (Ob, Rv, Lo, Hi, mc, Pl, Od, Ge, Od) 5 ls s.heap [] dX6_coupleInOrder_5 (⟨Or.inl ⟨Int32.not_le.mp c_1, rfl⟩, hB⟩) (hw)

def rmX6_generation : Room := { frames := 3, cells := 0, slots := 0, locals := 70 }
set_option maxHeartbeats 4000000 in
set_option maxRecDepth 100000 in
theorem c_X6_generation (l : Launch) (E : ZE) (h0 aN aH aO aR aL aG aT aE aB aV : Nat) (ed mc : Nat) (Nw : Nat → Nat) (Ob Rv Lo Hi : Nat → Nat) (Od Ge : Nat → Nat) (Pl : Nat → Bool) (x : Int32) (hn : Nw 96 ≤ 24) (hF : ∀ j, j < 96 → Nw j < 10) (hW : ∀ k sd, k < 24 → sd < 2 → Nw (4 * k + 2 + sd) ≤ 5) (hB : Bd Ob ∧ Bd Rv ∧ Bd Lo ∧ Bd Hi) : ZMi l yX6_generation cX6_generation 2 (some .int) rmX6_generation E [.ref h0, .int x] [(h0, ob 6 [.ref aN, .ref aH, .int (nI ed), .int (nI mc), .ref aO, .ref aR, .ref aL, .ref aG, .ref aT, .ref aE, .ref aB, .ref aV]), (aN, ia E 97 (nA Nw)), (aO, ia E 24 (nA Ob)), (aR, ia E 24 (nA Rv)), (aL, ia E 48 (nA Lo)), (aG, ia E 48 (nA Hi)), (aT, ia E 24 (nA Od)), (aE, ia E 24 (nA Ge)), (aB, ba E 24 (bA Pl))] (S := (Nat → Nat) × (Nat → Nat) × (Nat → Nat) × (Nat → Nat) × Nat × (Nat → Bool) × (Nat → Nat) × (Nat → Nat) × (Nat → Nat)) (fun r u => (x < 0 ∧ r = -1 ∨ 0 ≤ x ∧ inR x (rk (hasP Nw (Nw 96)) 100) = false ∧ r = -3 ∨ 0 ≤ x ∧ inR x (rk (hasP Nw (Nw 96)) 100) = true ∧ FI Nw (Nw 96) 100 u.1 u.2.1 u.2.2.1 u.2.2.2.1 ∧ (∀ t, plS (erM u.1 u.2.1 u.2.2.1 u.2.2.2.1) (rk (hasP Nw (Nw 96)) 100) (clrB Pl (rk (hasP Nw (Nw 96)) 100)) Od (clrN Ge (rk (hasP Nw (Nw 96)) 100)) (rk (hasP Nw (Nw 96)) 100) = some t → u.2.2.2.2.2.2.2.2 = t.2.2) ∧ r = (if (plS (erM u.1 u.2.1 u.2.2.1 u.2.2.2.1) (rk (hasP Nw (Nw 96)) 100) (clrB Pl (rk (hasP Nw (Nw 96)) 100)) Od (clrN Ge (rk (hasP Nw (Nw 96)) 100)) (rk (hasP Nw (Nw 96)) 100)).isSome = true then nI (u.2.2.2.2.2.2.2.2 (cl x)) else (-4))) ∧ Bd u.1 ∧ Bd u.2.1 ∧ Bd u.2.2.1 ∧ Bd u.2.2.2.1) (fun u => [(h0, ob 6 [.ref aN, .ref aH, .int (nI ed), .int (nI u.2.2.2.2.1), .ref aO, .ref aR, .ref aL, .ref aG, .ref aT, .ref aE, .ref aB, .ref aV]), (aN, ia E 97 (nA Nw)), (aO, ia E 24 (nA u.1)), (aR, ia E 24 (nA u.2.1)), (aL, ia E 48 (nA u.2.2.1)), (aG, ia E 48 (nA u.2.2.2.1)), (aT, ia E 24 (nA u.2.2.2.2.2.2.1)), (aE, ia E 24 (nA u.2.2.2.2.2.2.2.1)), (aB, ba E 24 (bA u.2.2.2.2.2.1))]) := by
  refine z_mi (by decide) (Nat.le_of_ble_eq_true rfl) ?_
  intro p e s m args below meth c A Q ls cx hin hw hl ret
  obtain ⟨hx, hb, hml, hown, hts, hK, hN, hA, hlk⟩ := id cx
  have hl : lv_has ls 2 [(0, .ref h0), (1, .int x)] := hl
  refine lv_iload_n hx hb dX6_generation_0 rfl (lv_at hl 1 rfl) ?_
  refine lv_if_ge (tgt := 6) hx hb dX6_generation_1 (by decide) (fun c_1 => ?_) (fun c_1 => ?_)
  · refine lv_aload_n hx hb dX6_generation_6 rfl (lv_at hl 0 rfl) ?_
    refine z_rv0 (wr := [(aT, ia E 24 (nA Od)), (aE, ia E 24 (nA Ge)), (aB, ba E 24 (bA Pl))]) cx hw [0, 1, 2, 3, 4, 5] [6, 7, 8] rfl rfl (by decide) (by decide) rfl rfl (z_runV (As := []) (rest := []) cx hw rfl rfl [0, 1, 2, 3, 4, 5] rfl rfl (c_X6_finds l E h0 aN aH aO aR aL aG aT aE aB aV ed mc Nw Ob Rv Lo Hi (by omega) (hF) (hW) (hB) s.heap.size) mf_X6_finds wd_284 ⟨Nat.le_of_ble_eq_true rfl, Nat.le_of_ble_eq_true rfl⟩ hl (Nat.le_of_ble_eq_true rfl) dX6_generation_7 ⟨Nat.le_of_ble_eq_true rfl, Nat.le_of_ble_eq_true rfl⟩) (fun u H locs hp hw => ?_)
    obtain ⟨Ob, Rv, Lo, Hi⟩ := u
    have hp_7 : FI Nw (Nw 96) 100 Ob Rv Lo Hi ∧ Bd Ob ∧ Bd Rv ∧ Bd Lo ∧ Bd Hi := hp
    have hw : ZW E A s [(aT, ia E 24 (nA Od)), (aE, ia E 24 (nA Ge)), (aB, ba E 24 (bA Pl)), (h0, ob 6 [.ref aN, .ref aH, .int (nI ed), .int (nI (rk (hasP Nw (Nw 96)) 100)), .ref aO, .ref aR, .ref aL, .ref aG, .ref aT, .ref aE, .ref aB, .ref aV]), (aN, ia E 97 (nA Nw)), (aO, ia E 24 (nA Ob)), (aR, ia E 24 (nA Rv)), (aL, ia E 48 (nA Lo)), (aG, ia E 48 (nA Hi))] H locs := hw
    have hmm_ := rk_hasP Nw (Nw 96) 100
    refine lv_iload_n hx hb dX6_generation_10 rfl (lv_at hl 1 rfl) ?_
    refine lv_aload_n hx hb dX6_generation_11 rfl (lv_at hl 0 rfl) ?_
    refine z_get cx hw 3 3 rfl rfl inlX6 (by decide) wd_283 rfl dX6_generation_12 ?_
    refine lv_icmp_lt (tgt := 21) hx hb dX6_generation_15 (by decide) (fun c_15 => ?_) (fun c_15 => ?_)
    · have hI_ : inR x (rk (hasP Nw (Nw 96)) 100) = true := inR_in (by omega) (Int32.not_lt.mpr c_1) (Int32.not_le.mpr c_15)
      obtain ⟨k, hk, rfl⟩ := inR_get hI_ (by omega)
      refine lv_aload_n hx hb dX6_generation_21 rfl (lv_at hl 0 rfl) ?_
      refine z_ri0 (wr := [(aN, ia E 97 (nA Nw))]) cx hw [3, 5, 6, 7, 8, 0, 1, 2] [4] rfl rfl (by decide) (by decide) rfl rfl (z_runV (As := []) (rest := []) cx hw rfl rfl [3, 5, 6, 7, 8, 0, 1, 2] rfl rfl (c_X6_places l E h0 aN aH aO aR aL aG aT aE aB aV ed (rk (hasP Nw (Nw 96)) 100) Ob Rv Lo Hi Od Ge Pl (by omega) (hp_7.2) H.size) mf_X6_places wd_428 ⟨Nat.le_of_ble_eq_true rfl, Nat.le_of_ble_eq_true rfl⟩ hl (Nat.le_of_ble_eq_true rfl) dX6_generation_22 ⟨Nat.le_of_ble_eq_true rfl, Nat.le_of_ble_eq_true rfl⟩) (fun r u H locs hp hw => ?_)
      obtain ⟨P2, O2, G2⟩ := u
      obtain ⟨hr_22, hp_22⟩ := hp
      have hr_22 : r = bI ((plS (erM Ob Rv Lo Hi) (rk (hasP Nw (Nw 96)) 100) (clrB Pl (rk (hasP Nw (Nw 96)) 100)) Od (clrN Ge (rk (hasP Nw (Nw 96)) 100)) (rk (hasP Nw (Nw 96)) 100)).isSome) := hr_22
      subst hr_22
      have hp_22 : ∀ t, plS (erM Ob Rv Lo Hi) (rk (hasP Nw (Nw 96)) 100) (clrB Pl (rk (hasP Nw (Nw 96)) 100)) Od (clrN Ge (rk (hasP Nw (Nw 96)) 100)) (rk (hasP Nw (Nw 96)) 100) = some t → O2 = t.2.1 ∧ G2 = t.2.2 := hp_22
      have hw : ZW E A s [(aN, ia E 97 (nA Nw)), (h0, ob 6 [.ref aN, .ref aH, .int (nI ed), .int (nI (rk (hasP Nw (Nw 96)) 100)), .ref aO, .ref aR, .ref aL, .ref aG, .ref aT, .ref aE, .ref aB, .ref aV]), (aO, ia E 24 (nA Ob)), (aR, ia E 24 (nA Rv)), (aL, ia E 48 (nA Lo)), (aG, ia E 48 (nA Hi)), (aT, ia E 24 (nA O2)), (aE, ia E 24 (nA G2)), (aB, ba E 24 (bA P2))] H locs := hw
      refine z_ifb_eq hx hb 37 dX6_generation_25 (by decide) (fun c_25 => ?_) (fun c_25 => ?_)
      · refine lv_bipush (v := (-4)) hx hb dX6_generation_37 (by decide) ?_
        exact ret ((-4)) (Ob, Rv, Lo, Hi, rk (hasP Nw (Nw 96)) 100, P2, O2, G2, G2) 39 ls H locs dX6_generation_39 (⟨Or.inr (Or.inr ⟨c_1, hI_, hp_7.1, fun t ht => (hp_22 t ht).2, by rw [c_25, cl_nI hk (by omega)]; rfl⟩), hp_7.2⟩) (hw.perm [1, 0, 2, 3, 4, 5, 6, 7, 8] rfl (by decide))
      · refine lv_aload_n hx hb dX6_generation_28 rfl (lv_at hl 0 rfl) ?_
        refine z_get cx hw 1 9 rfl rfl inlX6 (by decide) wd_77 rfl dX6_generation_29 ?_
        refine lv_iload_n hx hb dX6_generation_32 rfl (lv_at hl 1 rfl) ?_
        refine z_aldN cx hw 7 rfl (k) rfl (by omega) (by decide) dX6_generation_33 ?_
        refine lv_goto (tgt := 39) hx hb dX6_generation_34 (by decide) ?_
        exact ret (nI (G2 k)) (Ob, Rv, Lo, Hi, rk (hasP Nw (Nw 96)) 100, P2, O2, G2, G2) 39 ls H locs dX6_generation_39 (⟨Or.inr (Or.inr ⟨c_1, hI_, hp_7.1, fun t ht => (hp_22 t ht).2, by rw [c_25, cl_nI hk (by omega)]; rfl⟩), hp_7.2⟩) (hw.perm [1, 0, 2, 3, 4, 5, 6, 7, 8] rfl (by decide))
    · refine lv_bipush (v := (-3)) hx hb dX6_generation_18 (by decide) ?_
      exact ret ((-3)) (Ob, Rv, Lo, Hi, rk (hasP Nw (Nw 96)) 100, Pl, Od, Ge, Od) 20 ls H locs dX6_generation_20 (⟨Or.inr (Or.inl ⟨c_1, inR_ge (by omega) (Int32.not_lt.mp c_15), rfl⟩), hp_7.2⟩) (hw.perm [3, 4, 5, 6, 7, 8, 0, 1, 2] rfl (by decide))
  · refine lv_iconst (v := (-1)) hx hb dX6_generation_4 (by decide) ?_
    exact ret ((-1)) (Ob, Rv, Lo, Hi, mc, Pl, Od, Ge, Od) 5 ls s.heap [] dX6_generation_5 (⟨Or.inl ⟨Int32.not_le.mp c_1, rfl⟩, hB⟩) (hw)

