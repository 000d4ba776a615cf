theorem zc {x y : Nat × va_E} {w w2 : va_W} (h : x = y) (t : w = w2) : x :: w = y :: w2 := by rw [h, t]
/-! ===== the numbers that the specimens give ===== -/
/-- specimens among the first k that were struck with die a of side sd -/
def cnt (F : Nat → Nat) (sd a : Nat) : Nat → Nat
  | 0 => 0
  | k + 1 => cnt F sd a k + (if F (4 * k + sd) = a then 1 else 0)
theorem cnt_le (F : Nat → Nat) (sd a k : Nat) : cnt F sd a k ≤ k := by
  induction k with
  | zero => simp [cnt]
  | succ k ih => simp only [cnt]; split <;> omega
def wsum (F : Nat → Nat) (sd a : Nat) : Nat → Nat
  | 0 => 0
  | k + 1 => wsum F sd a k + (if F (4 * k + sd) = a then F (4 * k + 2 + sd) else 0)
/-- known dies among the first k of side sd -/
def kn (F : Nat → Nat) (sd n : Nat) : Nat → Nat
  | 0 => 0
  | k + 1 => kn F sd n k + (if 0 < cnt F sd k n then 1 else 0)
theorem kn_le (F : Nat → Nat) (sd n k : Nat) : kn F sd n k ≤ k := by
  induction k with
  | zero => simp [kn]
  | succ k ih => simp only [kn]; split <;> omega
/-- dies among the first k of side sd with just one specimen -/
def sg (F : Nat → Nat) (sd n : Nat) : Nat → Nat
  | 0 => 0
  | k + 1 => sg F sd n k + (if cnt F sd k n = 1 then 1 else 0)
theorem sg_le (F : Nat → Nat) (sd n k : Nat) : sg F sd n k ≤ k := by
  induction k with
  | zero => simp [sg]
  | succ k ih => simp only [sg]; split <;> omega
/-- die a of side sd replaced by b among the first k specimens -/
def rep (F : Nat → Nat) (sd a b k : Nat) : Nat → Nat := fun j => if j < 4 * k ∧ j % 4 = sd ∧ F j = a then b else F j
theorem rep_zero (F : Nat → Nat) (sd a b : Nat) : rep F sd a b 0 = F := by
  funext j
  simp [rep]
theorem rep_at (F : Nat → Nat) (sd a b k : Nat) : rep F sd a b k (4 * k + sd) = F (4 * k + sd) := by
  simp only [rep]
  rw [if_neg (by omega)]
theorem rep_eq (F : Nat → Nat) {sd : Nat} (a b k : Nat) (hs : sd < 4) (h : F (4 * k + sd) = a) : updN (rep F sd a b k) (4 * k + sd) b = rep F sd a b (k + 1) := by
  funext j
  simp only [updN, rep]
  by_cases e : j = 4 * k + sd
  · subst e
    rw [if_pos rfl, if_pos ⟨by omega, by omega, h⟩]
  · rw [if_neg e]
    by_cases c : j < 4 * k ∧ j % 4 = sd ∧ F j = a
    · rw [if_pos c, if_pos ⟨by omega, c.2⟩]
    · rw [if_neg c, if_neg (fun q => c ⟨by omega, q.2⟩)]
theorem rep_ne (F : Nat → Nat) {sd : Nat} (a b k : Nat) (hs : sd < 4) (h : ¬ F (4 * k + sd) = a) : rep F sd a b k = rep F sd a b (k + 1) := by
  funext j
  simp only [rep]
  by_cases c : j < 4 * k ∧ j % 4 = sd ∧ F j = a
  · rw [if_pos c, if_pos ⟨by omega, c.2⟩]
  · rw [if_neg c, if_neg (fun q => c ⟨by
      rcases Nat.lt_or_ge j (4 * k) with g | g
      · exact g
      · have e : j = 4 * k + sd := by omega
        subst e
        exact absurd q.2.2 h, q.2⟩)]
/-- the cells when specimen s of n has gone -/
def rmv (F : Nat → Nat) (s n : Nat) : Nat → Nat := cpyN F F (4 * s + 4) (4 * s) (4 * n - (4 * s + 4))

def rmX4_init : Room := { frames := 1, cells := 1, slots := 96, locals := 24 }
set_option maxHeartbeats 4000000 in
set_option maxRecDepth 100000 in
theorem c_X4_init (l : Launch) (E : ZE) (h0 : Nat)  : ZMv l yX4_init cX4_init 1 rmX4_init E [.ref h0] [(h0, ob 4 [.null, .int (nI 0)])] (S := Nat) (fun u => True) (fun u => [(h0, ob 4 [.ref u, .int (nI 0)]), (u, ia E 96 (nA (fun _ => 0)))]) := by
  refine z_mv (by decide) (Nat.le_of_ble_eq_true rfl) ?_
  intro p e s m args below meth c A Q ls cx hin hw hl ret
  obtain ⟨hx, hb, hml, hown, hts, hK, hN, hA, hlk⟩ := id cx
  have hl : lv_has ls 1 [(0, .ref h0)] := hl
  refine lv_aload_n hx hb dX4_init_0 rfl (lv_at hl 0 rfl) ?_
  refine z_obj cx hl wd_34 (Nat.le_of_ble_eq_true rfl) (Nat.le_of_ble_eq_true rfl) dX4_init_1 ?_
  refine lv_aload_n hx hb dX4_init_4 rfl (lv_at hl 0 rfl) ?_
  refine lv_bipush (v := nI 96) hx hb dX4_init_5 (by decide) ?_
  refine z_newa (atype := .int) (a0 := (96, .inl (nA (fun _ => 0)))) (k := 0) cx hw 96 rfl (by decide) rfl rfl (fun _ h => by cases h) (fun _ => rfl) (by decide) wd_35 (Nat.le_of_ble_eq_true rfl) (Nat.le_of_ble_eq_true rfl) dX4_init_7 (fun q7 H hw => ?_)
  refine W.widen (k := 1) (n := 96) (Nat.le_of_ble_eq_true rfl) (Nat.le_of_ble_eq_true rfl) ?_
  have hw : ZW E A s [(h0, ob 4 [.null, .int (nI 0)]), (q7, ia E 96 (nA (fun _ => 0)))] H [] := hw
  refine z_putF cx hw 0 0 rfl rfl inlX4 tyX4_ok nmX4 (by decide) wd_36 rfl hin rfl rfl rfl (Nat.le_of_ble_eq_true rfl) dX4_init_9 (fun H locs hw => ?_)
  have hw : ZW E A s [(h0, ob 4 [.ref q7, .int (nI 0)]), (q7, ia E 96 (nA (fun _ => 0)))] H locs := hw
  refine lv_aload_n hx hb dX4_init_12 rfl (lv_at hl 0 rfl) ?_
  refine lv_iconst (v := nI 0) hx hb dX4_init_13 (by decide) ?_
  refine z_put cx hw 0 1 rfl rfl inlX4 tyX4_ok nmX4 (by decide) wd_37 rfl rfl rfl (Nat.le_of_ble_eq_true rfl) dX4_init_14 (fun H locs hw => ?_)
  have hw : ZW E A s [(h0, ob 4 [.ref q7, .int (nI 0)]), (q7, ia E 96 (nA (fun _ => 0)))] H locs := hw
  exact ret q7 17 ls H locs dX4_init_17 (trivial) (hw)

def rmX4_has : Room := { frames := 0, cells := 0, slots := 0, locals := 0 }
set_option maxHeartbeats 4000000 in
set_option maxRecDepth 100000 in
theorem c_X4_has (l : Launch) (E : ZE) (h0 q : Nat) (F : Nat → Nat) (n : Nat) (x : Int32) (hn : n ≤ 24) : ZMi l yX4_has cX4_has 2 (some .boolean) rmX4_has E [.ref h0, .int x] [(h0, ob 4 [.ref q, .int (nI n)]), (q, ia E 96 (nA F))] (S := Unit) (fun r _ => r = bI (inR x n)) (fun _ => [(h0, ob 4 [.ref q, .int (nI n)]), (q, ia E 96 (nA F))]) := by
  refine z_mz (by decide) (Nat.le_of_ble_eq_true rfl) ?_
  intro p e s m args below meth c A Q ls cx hin hw hl ret
  obtain ⟨hx, hb, hml, hown, hts, hK, hN, hA, hlk⟩ := id cx
  have hl : lv_has ls 2 [(0, .ref h0), (1, .int x)] := hl
  refine lv_iload_n hx hb dX4_has_0 rfl (lv_at hl 1 rfl) ?_
  refine lv_if_lt (tgt := 16) hx hb dX4_has_1 (by decide) (fun c_1 => ?_) (fun c_1 => ?_)
  · refine lv_iconst (v := nI 0) hx hb dX4_has_16 (by decide) ?_
    exact ret false () 17 ls s.heap [] dX4_has_17 (congrArg bI (by rw [inR_neg c_1])) (hw)
  · refine lv_iload_n hx hb dX4_has_4 rfl (lv_at hl 1 rfl) ?_
    refine lv_aload_n hx hb dX4_has_5 rfl (lv_at hl 0 rfl) ?_
    refine z_get cx hw 0 1 rfl rfl inlX4 (by decide) wd_37 rfl dX4_has_6 ?_
    refine lv_icmp_ge (tgt := 16) hx hb dX4_has_9 (by decide) (fun c_9 => ?_) (fun c_9 => ?_)
    · refine lv_iconst (v := nI 0) hx hb dX4_has_16 (by decide) ?_
      exact ret false () 17 ls s.heap [] dX4_has_17 (congrArg bI (by rw [inR_ge (by omega) c_9])) (hw)
    · refine lv_iconst (v := nI 1) hx hb dX4_has_12 (by decide) ?_
      refine lv_goto (tgt := 17) hx hb dX4_has_13 (by decide) ?_
      exact ret true () 17 ls s.heap [] dX4_has_17 (congrArg bI (by rw [inR_in (by omega) c_1 c_9])) (hw)

def rmX4_die : Room := { frames := 0, cells := 0, slots := 0, locals := 0 }
set_option maxHeartbeats 4000000 in
set_option maxRecDepth 100000 in
theorem c_X4_die (l : Launch) (E : ZE) (h0 q : Nat) (F : Nat → Nat) (n : Nat) (k sd : Nat) (hk : k < 24) (hs : sd < 2) : ZMi l yX4_die cX4_die 3 (some .int) rmX4_die E [.ref h0, .int (nI k), .int (nI sd)] [(h0, ob 4 [.ref q, .int (nI n)]), (q, ia E 96 (nA F))] (S := Unit) (fun r _ => r = nI (F (4 * k + sd))) (fun _ => [(h0, ob 4 [.ref q, .int (nI n)]), (q, ia E 96 (nA F))]) := by
  refine z_mi (by decide) (Nat.le_of_ble_eq_true rfl) ?_
  intro p e s m args below meth c A Q ls cx hin hw hl ret
  obtain ⟨hx, hb, hml, hown, hts, hK, hN, hA, hlk⟩ := id cx
  have hl : lv_has ls 3 [(0, .ref h0), (1, .int (nI k)), (2, .int (nI sd))] := hl
  refine lv_aload_n hx hb dX4_die_0 rfl (lv_at hl 0 rfl) ?_
  refine z_get cx hw 0 0 rfl rfl inlX4 (by decide) wd_36 rfl dX4_die_1 ?_
  refine lv_iload_n hx hb dX4_die_4 rfl (lv_at hl 1 rfl) ?_
  refine lv_iconst (v := nI 4) hx hb dX4_die_5 (by decide) ?_
  refine z_imul hx hb (k * 4) rfl dX4_die_6 ?_
  refine lv_iload_n hx hb dX4_die_7 rfl (lv_at hl 2 rfl) ?_
  refine z_iadd hx hb ((k * 4) + sd) rfl dX4_die_8 ?_
  refine z_aldN cx hw 1 rfl (4 * k + sd) (congrArg nI (by omega)) (by omega) (by decide) dX4_die_9 ?_
  exact ret (nI (F (4 * k + sd))) () 10 ls s.heap [] dX4_die_10 (rfl) (hw)

def rmX4_putDie : Room := { frames := 0, cells := 0, slots := 0, locals := 0 }
set_option maxHeartbeats 4000000 in
set_option maxRecDepth 100000 in
theorem c_X4_putDie (l : Launch) (E : ZE) (h0 q : Nat) (F : Nat → Nat) (n : Nat) (k sd v : Nat) (hk : k < 24) (hs : sd < 2) : ZMv l yX4_putDie cX4_putDie 4 rmX4_putDie E [.ref h0, .int (nI k), .int (nI sd), .int (nI v)] [(h0, ob 4 [.ref q, .int (nI n)]), (q, ia E 96 (nA F))] (S := Unit) (fun _ => True) (fun _ => [(h0, ob 4 [.ref q, .int (nI n)]), (q, ia E 96 (nA (updN F (4 * k + sd) v)))]) := by
  refine z_mv (by decide) (Nat.le_of_ble_eq_true rfl) ?_
  intro p e s m args below meth c A Q ls cx hin hw hl ret
  obtain ⟨hx, hb, hml, hown, hts, hK, hN, hA, hlk⟩ := id cx
  have hl : lv_has ls 4 [(0, .ref h0), (1, .int (nI k)), (2, .int (nI sd)), (3, .int (nI v))] := hl
  refine lv_aload_n hx hb dX4_putDie_0 rfl (lv_at hl 0 rfl) ?_
  refine z_get cx hw 0 0 rfl rfl inlX4 (by decide) wd_36 rfl dX4_putDie_1 ?_
  refine lv_iload_n hx hb dX4_putDie_4 rfl (lv_at hl 1 rfl) ?_
  refine lv_iconst (v := nI 4) hx hb dX4_putDie_5 (by decide) ?_
  refine z_imul hx hb (k * 4) rfl dX4_putDie_6 ?_
  refine lv_iload_n hx hb dX4_putDie_7 rfl (lv_at hl 2 rfl) ?_
  refine z_iadd hx hb ((k * 4) + sd) rfl dX4_putDie_8 ?_
  refine lv_iload_n hx hb dX4_putDie_9 rfl (lv_at hl 3 rfl) ?_
  refine z_astN cx hw 1 rfl (4 * k + sd) (congrArg nI (by omega)) (by omega) (by decide) dX4_putDie_10 (fun H locs hw => ?_)
  have hw : ZW E A s [(h0, ob 4 [.ref q, .int (nI n)]), (q, ia E 96 (nA (updN F (4 * k + sd) v)))] H locs := hw
  exact ret () 11 ls H locs dX4_putDie_11 (trivial) (hw)

def rmX4_wear : Room := { frames := 0, cells := 0, slots := 0, locals := 0 }
set_option maxHeartbeats 4000000 in
set_option maxRecDepth 100000 in
theorem c_X4_wear (l : Launch) (E : ZE) (h0 q : Nat) (F : Nat → Nat) (n : Nat) (k sd : Nat) (hk : k < 24) (hs : sd < 2) : ZMi l yX4_wear cX4_wear 3 (some .int) rmX4_wear E [.ref h0, .int (nI k), .int (nI sd)] [(h0, ob 4 [.ref q, .int (nI n)]), (q, ia E 96 (nA F))] (S := Unit) (fun r _ => r = nI (F (4 * k + 2 + sd))) (fun _ => [(h0, ob 4 [.ref q, .int (nI n)]), (q, ia E 96 (nA F))]) := by
  refine z_mi (by decide) (Nat.le_of_ble_eq_true rfl) ?_
  intro p e s m args below meth c A Q ls cx hin hw hl ret
  obtain ⟨hx, hb, hml, hown, hts, hK, hN, hA, hlk⟩ := id cx
  have hl : lv_has ls 3 [(0, .ref h0), (1, .int (nI k)), (2, .int (nI sd))] := hl
  refine lv_aload_n hx hb dX4_wear_0 rfl (lv_at hl 0 rfl) ?_
  refine z_get cx hw 0 0 rfl rfl inlX4 (by decide) wd_36 rfl dX4_wear_1 ?_
  refine lv_iload_n hx hb dX4_wear_4 rfl (lv_at hl 1 rfl) ?_
  refine lv_iconst (v := nI 4) hx hb dX4_wear_5 (by decide) ?_
  refine z_imul hx hb (k * 4) rfl dX4_wear_6 ?_
  refine lv_iconst (v := nI 2) hx hb dX4_wear_7 (by decide) ?_
  refine z_iadd hx hb ((k * 4) + 2) rfl dX4_wear_8 ?_
  refine lv_iload_n hx hb dX4_wear_9 rfl (lv_at hl 2 rfl) ?_
  refine z_iadd hx hb (((k * 4) + 2) + sd) rfl dX4_wear_10 ?_
  refine z_aldN cx hw 1 rfl (4 * k + 2 + sd) (congrArg nI (by omega)) (by omega) (by decide) dX4_wear_11 ?_
  exact ret (nI (F (4 * k + 2 + sd))) () 12 ls s.heap [] dX4_wear_12 (rfl) (hw)

def rmX4_putWear : Room := { frames := 0, cells := 0, slots := 0, locals := 0 }
set_option maxHeartbeats 4000000 in
set_option maxRecDepth 100000 in
theorem c_X4_putWear (l : Launch) (E : ZE) (h0 q : Nat) (F : Nat → Nat) (n : Nat) (k sd v : Nat) (hk : k < 24) (hs : sd < 2) : ZMv l yX4_putWear cX4_putWear 4 rmX4_putWear E [.ref h0, .int (nI k), .int (nI sd), .int (nI v)] [(h0, ob 4 [.ref q, .int (nI n)]), (q, ia E 96 (nA F))] (S := Unit) (fun _ => True) (fun _ => [(h0, ob 4 [.ref q, .int (nI n)]), (q, ia E 96 (nA (updN F (4 * k + 2 + sd) v)))]) := by
  refine z_mv (by decide) (Nat.le_of_ble_eq_true rfl) ?_
  intro p e s m args below meth c A Q ls cx hin hw hl ret
  obtain ⟨hx, hb, hml, hown, hts, hK, hN, hA, hlk⟩ := id cx
  have hl : lv_has ls 4 [(0, .ref h0), (1, .int (nI k)), (2, .int (nI sd)), (3, .int (nI v))] := hl
  refine lv_aload_n hx hb dX4_putWear_0 rfl (lv_at hl 0 rfl) ?_
  refine z_get cx hw 0 0 rfl rfl inlX4 (by decide) wd_36 rfl dX4_putWear_1 ?_
  refine lv_iload_n hx hb dX4_putWear_4 rfl (lv_at hl 1 rfl) ?_
  refine lv_iconst (v := nI 4) hx hb dX4_putWear_5 (by decide) ?_
  refine z_imul hx hb (k * 4) rfl dX4_putWear_6 ?_
  refine lv_iconst (v := nI 2) hx hb dX4_putWear_7 (by decide) ?_
  refine z_iadd hx hb ((k * 4) + 2) rfl dX4_putWear_8 ?_
  refine lv_iload_n hx hb dX4_putWear_9 rfl (lv_at hl 2 rfl) ?_
  refine z_iadd hx hb (((k * 4) + 2) + sd) rfl dX4_putWear_10 ?_
  refine lv_iload_n hx hb dX4_putWear_11 rfl (lv_at hl 3 rfl) ?_
  refine z_astN cx hw 1 rfl (4 * k + 2 + sd) (congrArg nI (by omega)) (by omega) (by decide) dX4_putWear_12 (fun H locs hw => ?_)
  have hw : ZW E A s [(h0, ob 4 [.ref q, .int (nI n)]), (q, ia E 96 (nA (updN F (4 * k + 2 + sd) v)))] H locs := hw
  exact ret () 13 ls H locs dX4_putWear_13 (trivial) (hw)

def rmX4_close : Room := { frames := 1, cells := 0, slots := 0, locals := 60 }
set_option maxHeartbeats 4000000 in
set_option maxRecDepth 100000 in
theorem c_X4_close (l : Launch) (E : ZE) (h0 q : Nat) (F : Nat → Nat) (n : Nat) (k : Nat) (hk : k < n) (hn : n ≤ 24) : ZMv l yX4_close cX4_close 4 rmX4_close E [.ref h0, .int (nI k)] [(h0, ob 4 [.ref q, .int (nI n)]), (q, ia E 96 (nA F))] (S := Unit) (fun _ => True) (fun _ => [(h0, ob 4 [.ref q, .int (nI (n - 1))]), (q, ia E 96 (nA (rmv F k n)))]) := by
  refine z_mv (by decide) (Nat.le_of_ble_eq_true rfl) ?_
  intro p e s m args below meth c A Q ls cx hin hw hl ret
  obtain ⟨hx, hb, hml, hown, hts, hK, hN, hA, hlk⟩ := id cx
  have hl : lv_has ls 4 [(0, .ref h0), (1, .int (nI k))] := hl
  refine lv_iload_n hx hb dX4_close_0 rfl (lv_at hl 1 rfl) ?_
  refine lv_iconst (v := nI 4) hx hb dX4_close_1 (by decide) ?_
  refine z_imul hx hb (4 * k) (by omega) dX4_close_2 ?_
  refine lv_istore_n (lv' := [(2, .int (nI (4 * k))), (0, .ref h0), (1, .int (nI k))]) hx hb dX4_close_3 rfl hl (by decide) rfl (fun ls hl => ?_)
  refine lv_iload_n hx hb dX4_close_4 rfl (lv_at hl 0 rfl) ?_
  refine lv_iconst (v := nI 4) hx hb dX4_close_5 (by decide) ?_
  refine z_iadd hx hb ((4 * k) + 4) rfl dX4_close_6 ?_
  refine lv_istore_n (lv' := [(3, .int (nI ((4 * k) + 4))), (2, .int (nI (4 * k))), (0, .ref h0), (1, .int (nI k))]) hx hb dX4_close_7 rfl hl (by decide) rfl (fun ls hl => ?_)
  refine lv_aload_n hx hb dX4_close_8 rfl (lv_at hl 2 rfl) ?_
  refine z_get cx hw 0 0 rfl rfl inlX4 (by decide) wd_36 rfl dX4_close_9 ?_
  refine lv_iload_n hx hb dX4_close_12 rfl (lv_at hl 0 rfl) ?_
  refine lv_aload_n hx hb dX4_close_13 rfl (lv_at hl 2 rfl) ?_
  refine z_get cx hw 0 0 rfl rfl inlX4 (by decide) wd_36 rfl dX4_close_14 ?_
  refine lv_iload_n hx hb dX4_close_17 rfl (lv_at hl 1 rfl) ?_
  refine lv_aload_n hx hb dX4_close_18 rfl (lv_at hl 2 rfl) ?_
  refine z_get cx hw 0 1 rfl rfl inlX4 (by decide) wd_37 rfl dX4_close_19 ?_
  refine lv_iconst (v := nI 4) hx hb dX4_close_22 (by decide) ?_
  refine z_imul hx hb (4 * n) (by omega) dX4_close_23 ?_
  refine lv_iload_n hx hb dX4_close_24 rfl (lv_at hl 0 rfl) ?_
  refine z_isub hx hb ((4 * n) - ((4 * k) + 4)) (by omega) rfl dX4_close_25 ?_
  refine z_copy cx hw 1 1 rfl rfl ((4 * k) + 4) (4 * k) ((4 * n) - ((4 * k) + 4)) rfl rfl rfl (by omega) (by omega) (by decide) (by decide) hl wd_126 (Nat.le_of_ble_eq_true rfl) (Nat.le_of_ble_eq_true rfl) dX4_close_26 (fun H locs hw => ?_)
  have hw : ZW E A s [(h0, ob 4 [.ref q, .int (nI n)]), (q, ia E 96 (nA (cpyN F F ((4 * k) + 4) (4 * k) ((4 * n) - ((4 * k) + 4)))))] H locs := hw
  refine lv_aload_n hx hb dX4_close_29 rfl (lv_at hl 2 rfl) ?_
  refine lv_dup hx hb dX4_close_30 rfl ?_
  refine z_get cx hw 0 1 rfl rfl inlX4 (by decide) wd_37 rfl dX4_close_31 ?_
  refine lv_iconst (v := nI 1) hx hb dX4_close_34 (by decide) ?_
  refine z_isub hx hb (n - 1) (by omega) rfl dX4_close_35 ?_
  refine z_put cx hw 0 1 rfl rfl inlX4 tyX4_ok nmX4 (by decide) wd_37 rfl rfl rfl (Nat.le_of_ble_eq_true rfl) dX4_close_36 (fun H locs hw => ?_)
  have hw : ZW E A s [(h0, ob 4 [.ref q, .int (nI (n - 1))]), (q, ia E 96 (nA (cpyN F F ((4 * k) + 4) (4 * k) ((4 * n) - ((4 * k) + 4)))))] H locs := hw
  have e_r39_0 : (cpyN F F ((4 * k) + 4) (4 * k) ((4 * n) - ((4 * k) + 4))) = (rmv F k n) := by rfl
  exact ret () 39 ls H locs dX4_close_39 (trivial) ((hw).cast (zc rfl (zc (congrArg (fun z => ((q, ia E 96 (nA z)) : Nat × va_E)) e_r39_0) rfl)))

def rmX4_struckWith : Room := { frames := 1, cells := 0, slots := 0, locals := 22 }
set_option maxHeartbeats 4000000 in
set_option maxRecDepth 100000 in
theorem c_X4_struckWith (l : Launch) (E : ZE) (h0 q : Nat) (F : Nat → Nat) (n : Nat) (sd a : Nat) (hn : n ≤ 24) (hF : ∀ j, F j < 10) (hs : sd < 2) (ha : a < 10) : ZMi l yX4_struckWith cX4_struckWith 5 (some .int) rmX4_struckWith E [.ref h0, .int (nI sd), .int (nI a)] [(h0, ob 4 [.ref q, .int (nI n)]), (q, ia E 96 (nA F))] (S := Unit) (fun r _ => r = nI (cnt F sd a n)) (fun _ => [(h0, ob 4 [.ref q, .int (nI n)]), (q, ia E 96 (nA F))]) := by
  refine z_mi (by decide) (Nat.le_of_ble_eq_true rfl) ?_
  intro p e s m args below meth c A Q ls cx hin hw hl ret
  obtain ⟨hx, hb, hml, hown, hts, hK, hN, hA, hlk⟩ := id cx
  have hl : lv_has ls 5 [(0, .ref h0), (1, .int (nI sd)), (2, .int (nI a))] := hl
  refine lv_iconst (v := nI 0) hx hb dX4_struckWith_0 (by decide) ?_
  refine lv_istore_n (lv' := [(3, .int (nI 0)), (0, .ref h0), (1, .int (nI sd)), (2, .int (nI a))]) hx hb dX4_struckWith_1 rfl hl (by decide) rfl (fun ls hl => ?_)
  refine lv_iconst (v := nI 0) hx hb dX4_struckWith_2 (by decide) ?_
  refine lv_istore (lv' := [(4, .int (nI 0)), (3, .int (nI 0)), (0, .ref h0), (1, .int (nI sd)), (2, .int (nI a))]) hx hb dX4_struckWith_3 hl (by decide) rfl (fun ls hl => ?_)
  have loop_5 : ∀ (fuel : Nat) (k : Nat) (hk : k ≤ n) (hm : n - k < fuel) (H : Heap) (locs : List Loc) (ls : Array Slot), ZW E A s [(h0, ob 4 [.ref q, .int (nI n)]), (q, ia E 96 (nA F))] H locs → lv_has ls 5 [(0, .ref h0), (1, .int (nI sd)), (2, .int (nI a)), (3, .int (nI (cnt F sd a k))), (4, .int (nI k))] → W p l e rmX4_struckWith s m args below meth c H locs 0 0 Q (F0 m 5 ls []) := by
    intro fuel
    induction fuel with
    | zero => intro k hk hm; exact absurd hm (Nat.not_lt_zero _)
    | succ fuel ih_5 =>
      intro k hk hm H locs ls hw hl
      refine lv_iload hx hb dX4_struckWith_5 (lv_at hl 4 rfl) ?_
      refine lv_aload_n hx hb dX4_struckWith_7 rfl (lv_at hl 0 rfl) ?_
      refine z_get cx hw 0 1 rfl rfl inlX4 (by decide) wd_37 rfl dX4_struckWith_8 ?_
      refine z_icmp_ge hx hb (by omega) (by omega) 34 dX4_struckWith_11 (by decide) (fun c_11 => ?_) (fun c_11 => ?_)
      · refine lv_iload_n hx hb dX4_struckWith_34 rfl (lv_at hl 3 rfl) ?_
        have e_ : k = n := by omega
        exact ret (nI (cnt F sd a k)) () 35 ls H locs dX4_struckWith_35 (congrArg nI (by rw [e_])) (hw)
      · refine lv_aload_n hx hb dX4_struckWith_14 rfl (lv_at hl 0 rfl) ?_
        refine lv_iload hx hb dX4_struckWith_15 (lv_at hl 4 rfl) ?_
        refine lv_iload_n hx hb dX4_struckWith_17 rfl (lv_at hl 1 rfl) ?_
        refine z_ri0 (wr := []) cx hw [0, 1] [] rfl rfl (by decide) (by decide) rfl rfl (z_runV (As := [.int (nI k), .int (nI sd)]) (rest := []) cx hw rfl rfl [0, 1] rfl rfl (c_X4_die l E h0 q F n k sd (by omega) (by omega) H.size) mf_X4_die wd_159 ⟨Nat.le_of_ble_eq_true rfl, Nat.le_of_ble_eq_true rfl⟩ hl (Nat.le_of_ble_eq_true rfl) dX4_struckWith_18 ⟨Nat.le_of_ble_eq_true rfl, Nat.le_of_ble_eq_true rfl⟩) (fun r _ H locs hp hw => ?_)
        have hr_18 := hp
        have hr_18 : r = nI (F (4 * k + sd)) := hr_18
        subst hr_18
        have hw : ZW E A s [(h0, ob 4 [.ref q, .int (nI n)]), (q, ia E 96 (nA F))] H locs := hw
        have h_ := hF (4 * k + sd)
        refine lv_iload_n hx hb dX4_struckWith_21 rfl (lv_at hl 2 rfl) ?_
        refine z_icmp_ne hx hb (by omega) (by omega) 28 dX4_struckWith_22 (by decide) (fun c_22 => ?_) (fun c_22 => ?_)
        · refine lv_iinc (v := nI (k + 1)) (lv' := [(4, .int (nI (k + 1))), (0, .ref h0), (1, .int (nI sd)), (2, .int (nI a)), (3, .int (nI (cnt F sd a k)))]) hx hb dX4_struckWith_28 hl (k := 4) rfl (nI_1 _) (by decide) rfl (fun ls hl => ?_)
          refine lv_goto (tgt := 5) hx hb dX4_struckWith_31 (by decide) ?_
          exact ih_5 (k + 1) (by omega) (by omega) _ _ ls (hw) (lv_add (lv_add (lv_add (lv_add (lv_add (lv_nil hl) (lv_at hl 0 rfl)) (lv_eqv (lv_at hl 4 rfl) (zN (by simp [cnt, c_22])))) (lv_at hl 3 rfl)) (lv_at hl 2 rfl)) (lv_at hl 1 rfl))
        · refine lv_iinc (v := nI (cnt F sd a k + 1)) (lv' := [(3, .int (nI (cnt F sd a k + 1))), (0, .ref h0), (1, .int (nI sd)), (2, .int (nI a)), (4, .int (nI k))]) hx hb dX4_struckWith_25 hl (k := 3) rfl (nI_1 _) (by decide) rfl (fun ls hl => ?_)
          refine lv_iinc (v := nI (k + 1)) (lv' := [(4, .int (nI (k + 1))), (3, .int (nI (cnt F sd a k + 1))), (0, .ref h0), (1, .int (nI sd)), (2, .int (nI a))]) hx hb dX4_struckWith_28 hl (k := 4) rfl (nI_1 _) (by decide) rfl (fun ls hl => ?_)
          refine lv_goto (tgt := 5) hx hb dX4_struckWith_31 (by decide) ?_
          exact ih_5 (k + 1) (by omega) (by omega) _ _ ls (hw) (lv_add (lv_add (lv_add (lv_add (lv_add (lv_nil hl) (lv_at hl 0 rfl)) (lv_eqv (lv_at hl 1 rfl) (zN (by simp [cnt, c_22])))) (lv_at hl 4 rfl)) (lv_at hl 3 rfl)) (lv_at hl 2 rfl))
  exact loop_5 _ 0 (by omega) (Nat.lt_succ_self _) _ _ ls (hw) (lv_add (lv_add (lv_add (lv_add (lv_add (lv_nil hl) (lv_at hl 0 rfl)) (lv_eqv (lv_at hl 1 rfl) (zN (by rfl)))) (lv_at hl 4 rfl)) (lv_at hl 3 rfl)) (lv_at hl 2 rfl))

def rmX4_wearSum : Room := { frames := 1, cells := 0, slots := 0, locals := 22 }
set_option maxHeartbeats 4000000 in
set_option maxRecDepth 100000 in
theorem c_X4_wearSum (l : Launch) (E : ZE) (h0 q : Nat) (F : Nat → Nat) (n : Nat) (sd a : Nat) (hn : n ≤ 24) (hF : ∀ j, F j < 10) (hs : sd < 2) (ha : a < 10) : ZMi l yX4_wearSum cX4_wearSum 5 (some .int) rmX4_wearSum E [.ref h0, .int (nI sd), .int (nI a)] [(h0, ob 4 [.ref q, .int (nI n)]), (q, ia E 96 (nA F))] (S := Unit) (fun r _ => r = nI (wsum F sd a n)) (fun _ => [(h0, ob 4 [.ref q, .int (nI n)]), (q, ia E 96 (nA F))]) := by
  refine z_mi (by decide) (Nat.le_of_ble_eq_true rfl) ?_
  intro p e s m args below meth c A Q ls cx hin hw hl ret
  obtain ⟨hx, hb, hml, hown, hts, hK, hN, hA, hlk⟩ := id cx
  have hl : lv_has ls 5 [(0, .ref h0), (1, .int (nI sd)), (2, .int (nI a))] := hl
  refine lv_iconst (v := nI 0) hx hb dX4_wearSum_0 (by decide) ?_
  refine lv_istore_n (lv' := [(3, .int (nI 0)), (0, .ref h0), (1, .int (nI sd)), (2, .int (nI a))]) hx hb dX4_wearSum_1 rfl hl (by decide) rfl (fun ls hl => ?_)
  refine lv_iconst (v := nI 0) hx hb dX4_wearSum_2 (by decide) ?_
  refine lv_istore (lv' := [(4, .int (nI 0)), (3, .int (nI 0)), (0, .ref h0), (1, .int (nI sd)), (2, .int (nI a))]) hx hb dX4_wearSum_3 hl (by decide) rfl (fun ls hl => ?_)
  have loop_5 : ∀ (fuel : Nat) (k : Nat) (hk : k ≤ n) (hm : n - k < fuel) (H : Heap) (locs : List Loc) (ls : Array Slot), ZW E A s [(h0, ob 4 [.ref q, .int (nI n)]), (q, ia E 96 (nA F))] H locs → lv_has ls 5 [(0, .ref h0), (1, .int (nI sd)), (2, .int (nI a)), (3, .int (nI (wsum F sd a k))), (4, .int (nI k))] → W p l e rmX4_wearSum s m args below meth c H locs 0 0 Q (F0 m 5 ls []) := by
    intro fuel
    induction fuel with
    | zero => intro k hk hm; exact absurd hm (Nat.not_lt_zero _)
    | succ fuel ih_5 =>
      intro k hk hm H locs ls hw hl
      refine lv_iload hx hb dX4_wearSum_5 (lv_at hl 4 rfl) ?_
      refine lv_aload_n hx hb dX4_wearSum_7 rfl (lv_at hl 0 rfl) ?_
      refine z_get cx hw 0 1 rfl rfl inlX4 (by decide) wd_37 rfl dX4_wearSum_8 ?_
      refine z_icmp_ge hx hb (by omega) (by omega) 41 dX4_wearSum_11 (by decide) (fun c_11 => ?_) (fun c_11 => ?_)
      · refine lv_iload_n hx hb dX4_wearSum_41 rfl (lv_at hl 3 rfl) ?_
        have e_ : k = n := by omega
        exact ret (nI (wsum F sd a k)) () 42 ls H locs dX4_wearSum_42 (congrArg nI (by rw [e_])) (hw)
      · refine lv_aload_n hx hb dX4_wearSum_14 rfl (lv_at hl 0 rfl) ?_
        refine lv_iload hx hb dX4_wearSum_15 (lv_at hl 4 rfl) ?_
        refine lv_iload_n hx hb dX4_wearSum_17 rfl (lv_at hl 1 rfl) ?_
        refine z_ri0 (wr := []) cx hw [0, 1] [] rfl rfl (by decide) (by decide) rfl rfl (z_runV (As := [.int (nI k), .int (nI sd)]) (rest := []) cx hw rfl rfl [0, 1] rfl rfl (c_X4_die l E h0 q F n k sd (by omega) (by omega) H.size) mf_X4_die wd_159 ⟨Nat.le_of_ble_eq_true rfl, Nat.le_of_ble_eq_true rfl⟩ hl (Nat.le_of_ble_eq_true rfl) dX4_wearSum_18 ⟨Nat.le_of_ble_eq_true rfl, Nat.le_of_ble_eq_true rfl⟩) (fun r _ H locs hp hw => ?_)
        have hr_18 := hp
        have hr_18 : r = nI (F (4 * k + sd)) := hr_18
        subst hr_18
        have hw : ZW E A s [(h0, ob 4 [.ref q, .int (nI n)]), (q, ia E 96 (nA F))] H locs := hw
        have h_ := hF (4 * k + sd)
        refine lv_iload_n hx hb dX4_wearSum_21 rfl (lv_at hl 2 rfl) ?_
        refine z_icmp_ne hx hb (by omega) (by omega) 35 dX4_wearSum_22 (by decide) (fun c_22 => ?_) (fun c_22 => ?_)
        · refine lv_iinc (v := nI (k + 1)) (lv' := [(4, .int (nI (k + 1))), (0, .ref h0), (1, .int (nI sd)), (2, .int (nI a)), (3, .int (nI (wsum F sd a k)))]) hx hb dX4_wearSum_35 hl (k := 4) rfl (nI_1 _) (by decide) rfl (fun ls hl => ?_)
          refine lv_goto (tgt := 5) hx hb dX4_wearSum_38 (by decide) ?_
          exact ih_5 (k + 1) (by omega) (by omega) _ _ ls (hw) (lv_add (lv_add (lv_add (lv_add (lv_add (lv_nil hl) (lv_at hl 0 rfl)) (lv_eqv (lv_at hl 4 rfl) (zN (by simp [wsum, c_22])))) (lv_at hl 3 rfl)) (lv_at hl 2 rfl)) (lv_at hl 1 rfl))
        · refine lv_iload_n hx hb dX4_wearSum_25 rfl (lv_at hl 3 rfl) ?_
          refine lv_aload_n hx hb dX4_wearSum_26 rfl (lv_at hl 0 rfl) ?_
          refine lv_iload hx hb dX4_wearSum_27 (lv_at hl 4 rfl) ?_
          refine lv_iload_n hx hb dX4_wearSum_29 rfl (lv_at hl 1 rfl) ?_
          refine z_ri0 (wr := []) cx hw [0, 1] [] rfl rfl (by decide) (by decide) rfl rfl (z_runV (As := [.int (nI k), .int (nI sd)]) (rest := [.int (nI (wsum F sd a k))]) cx hw rfl rfl [0, 1] rfl rfl (c_X4_wear l E h0 q F n k sd (by omega) (by omega) H.size) mf_X4_wear wd_225 ⟨Nat.le_of_ble_eq_true rfl, Nat.le_of_ble_eq_true rfl⟩ hl (Nat.le_of_ble_eq_true rfl) dX4_wearSum_30 ⟨Nat.le_of_ble_eq_true rfl, Nat.le_of_ble_eq_true rfl⟩) (fun r _ H locs hp hw => ?_)
          have hr_30 := hp
          have hr_30 : r = nI (F (4 * k + 2 + sd)) := hr_30
          subst hr_30
          have hw : ZW E A s [(h0, ob 4 [.ref q, .int (nI n)]), (q, ia E 96 (nA F))] H locs := hw
          refine z_iadd hx hb ((wsum F sd a k) + (F (4 * k + 2 + sd))) rfl dX4_wearSum_33 ?_
          refine lv_istore_n (lv' := [(3, .int (nI ((wsum F sd a k) + (F (4 * k + 2 + sd))))), (0, .ref h0), (1, .int (nI sd)), (2, .int (nI a)), (4, .int (nI k))]) hx hb dX4_wearSum_34 rfl hl (by decide) rfl (fun ls hl => ?_)
          refine lv_iinc (v := nI (k + 1)) (lv' := [(4, .int (nI (k + 1))), (3, .int (nI ((wsum F sd a k) + (F (4 * k + 2 + sd))))), (0, .ref h0), (1, .int (nI sd)), (2, .int (nI a))]) hx hb dX4_wearSum_35 hl (k := 4) rfl (nI_1 _) (by decide) rfl (fun ls hl => ?_)
          refine lv_goto (tgt := 5) hx hb dX4_wearSum_38 (by decide) ?_
          exact ih_5 (k + 1) (by omega) (by omega) _ _ ls (hw) (lv_add (lv_add (lv_add (lv_add (lv_add (lv_nil hl) (lv_at hl 0 rfl)) (lv_eqv (lv_at hl 1 rfl) (zN (by simp [wsum, c_22])))) (lv_at hl 4 rfl)) (lv_at hl 3 rfl)) (lv_at hl 2 rfl))
  exact loop_5 _ 0 (by omega) (Nat.lt_succ_self _) _ _ ls (hw) (lv_add (lv_add (lv_add (lv_add (lv_add (lv_nil hl) (lv_at hl 0 rfl)) (lv_eqv (lv_at hl 1 rfl) (zN (by rfl)))) (lv_at hl 4 rfl)) (lv_at hl 3 rfl)) (lv_at hl 2 rfl))

def rmX4_knownDies : Room := { frames := 2, cells := 0, slots := 0, locals := 46 }
set_option maxHeartbeats 4000000 in
set_option maxRecDepth 100000 in
theorem c_X4_knownDies (l : Launch) (E : ZE) (h0 q : Nat) (F : Nat → Nat) (n : Nat) (sd : Nat) (hn : n ≤ 24) (hF : ∀ j, F j < 10) (hs : sd < 2) : ZMi l yX4_knownDies cX4_knownDies 4 (some .int) rmX4_knownDies E [.ref h0, .int (nI sd)] [(h0, ob 4 [.ref q, .int (nI n)]), (q, ia E 96 (nA F))] (S := Unit) (fun r _ => r = nI (kn F sd n 10)) (fun _ => [(h0, ob 4 [.ref q, .int (nI n)]), (q, ia E 96 (nA F))]) := by
  refine z_mi (by decide) (Nat.le_of_ble_eq_true rfl) ?_
  intro p e s m args below meth c A Q ls cx hin hw hl ret
  obtain ⟨hx, hb, hml, hown, hts, hK, hN, hA, hlk⟩ := id cx
  have hl : lv_has ls 4 [(0, .ref h0), (1, .int (nI sd))] := hl
  refine lv_iconst (v := nI 0) hx hb dX4_knownDies_0 (by decide) ?_
  refine lv_istore_n (lv' := [(2, .int (nI 0)), (0, .ref h0), (1, .int (nI sd))]) hx hb dX4_knownDies_1 rfl hl (by decide) rfl (fun ls hl => ?_)
  refine lv_iconst (v := nI 0) hx hb dX4_knownDies_2 (by decide) ?_
  refine lv_istore_n (lv' := [(3, .int (nI 0)), (2, .int (nI 0)), (0, .ref h0), (1, .int (nI sd))]) hx hb dX4_knownDies_3 rfl hl (by decide) rfl (fun ls hl => ?_)
  have loop_4 : ∀ (fuel : Nat) (k : Nat) (hk : k ≤ 10) (hm : 10 - k < fuel) (H : Heap) (locs : List Loc) (ls : Array Slot), ZW E A s [(h0, ob 4 [.ref q, .int (nI n)]), (q, ia E 96 (nA F))] H locs → lv_has ls 4 [(0, .ref h0), (1, .int (nI sd)), (2, .int (nI (kn F sd n k))), (3, .int (nI k))] → W p l e rmX4_knownDies s m args below meth c H locs 0 0 Q (F0 m 4 ls []) := by
    intro fuel
    induction fuel with
    | zero => intro k hk hm; exact absurd hm (Nat.not_lt_zero _)
    | succ fuel ih_4 =>
      intro k hk hm H locs ls hw hl
      refine lv_iload_n hx hb dX4_knownDies_4 rfl (lv_at hl 3 rfl) ?_
      refine lv_bipush (v := nI 10) hx hb dX4_knownDies_5 (by decide) ?_
      refine z_icmp_ge hx hb (by omega) (by decide) 28 dX4_knownDies_7 (by decide) (fun c_7 => ?_) (fun c_7 => ?_)
      · refine lv_iload_n hx hb dX4_knownDies_28 rfl (lv_at hl 2 rfl) ?_
        have e_ : k = 10 := by omega
        exact ret (nI (kn F sd n k)) () 29 ls H locs dX4_knownDies_29 (congrArg nI (by rw [e_])) (hw)
      · refine lv_aload_n hx hb dX4_knownDies_10 rfl (lv_at hl 0 rfl) ?_
        refine lv_iload_n hx hb dX4_knownDies_11 rfl (lv_at hl 1 rfl) ?_
        refine lv_iload_n hx hb dX4_knownDies_12 rfl (lv_at hl 3 rfl) ?_
        refine z_ri0 (wr := []) cx hw [0, 1] [] rfl rfl (by decide) (by decide) rfl rfl (z_runV (As := [.int (nI sd), .int (nI k)]) (rest := []) cx hw rfl rfl [0, 1] rfl rfl (c_X4_struckWith l E h0 q F n sd k (by omega) (hF) (by omega) (by omega) H.size) mf_X4_struckWith wd_201 ⟨Nat.le_of_ble_eq_true rfl, Nat.le_of_ble_eq_true rfl⟩ hl (Nat.le_of_ble_eq_true rfl) dX4_knownDies_13 ⟨Nat.le_of_ble_eq_true rfl, Nat.le_of_ble_eq_true rfl⟩) (fun r _ H locs hp hw => ?_)
        have hr_13 := hp
        have hr_13 : r = nI (cnt F sd k n) := hr_13
        subst hr_13
        have hw : ZW E A s [(h0, ob 4 [.ref q, .int (nI n)]), (q, ia E 96 (nA F))] H locs := hw
        have h_ := cnt_le F sd k n
        refine z_if_le hx hb (by omega) 22 dX4_knownDies_16 (by decide) (fun c_16 => ?_) (fun c_16 => ?_)
        · refine lv_iinc (v := nI (k + 1)) (lv' := [(3, .int (nI (k + 1))), (0, .ref h0), (1, .int (nI sd)), (2, .int (nI (kn F sd n k)))]) hx hb dX4_knownDies_22 hl (k := 3) rfl (nI_1 _) (by decide) rfl (fun ls hl => ?_)
          refine lv_goto (tgt := 4) hx hb dX4_knownDies_25 (by decide) ?_
          exact ih_4 (k + 1) (by omega) (by omega) _ _ ls (hw) (lv_add (lv_add (lv_add (lv_add (lv_nil hl) (lv_at hl 0 rfl)) (lv_eqv (lv_at hl 3 rfl) (zN (by simp [kn, c_16])))) (lv_at hl 2 rfl)) (lv_at hl 1 rfl))
        · refine lv_iinc (v := nI (kn F sd n k + 1)) (lv' := [(2, .int (nI (kn F sd n k + 1))), (0, .ref h0), (1, .int (nI sd)), (3, .int (nI k))]) hx hb dX4_knownDies_19 hl (k := 2) rfl (nI_1 _) (by decide) rfl (fun ls hl => ?_)
          refine lv_iinc (v := nI (k + 1)) (lv' := [(3, .int (nI (k + 1))), (2, .int (nI (kn F sd n k + 1))), (0, .ref h0), (1, .int (nI sd))]) hx hb dX4_knownDies_22 hl (k := 3) rfl (nI_1 _) (by decide) rfl (fun ls hl => ?_)
          refine lv_goto (tgt := 4) hx hb dX4_knownDies_25 (by decide) ?_
          exact ih_4 (k + 1) (by omega) (by omega) _ _ ls (hw) (lv_add (lv_add (lv_add (lv_add (lv_nil hl) (lv_at hl 0 rfl)) (lv_eqv (lv_at hl 1 rfl) (zN (by simp [kn, c_16])))) (lv_at hl 3 rfl)) (lv_at hl 2 rfl))
  exact loop_4 _ 0 (by omega) (Nat.lt_succ_self _) _ _ ls (hw) (lv_add (lv_add (lv_add (lv_add (lv_nil hl) (lv_at hl 0 rfl)) (lv_eqv (lv_at hl 1 rfl) (zN (by rfl)))) (lv_at hl 3 rfl)) (lv_at hl 2 rfl))

def rmX4_diesStruckOnce : Room := { frames := 2, cells := 0, slots := 0, locals := 46 }
set_option maxHeartbeats 4000000 in
set_option maxRecDepth 100000 in
theorem c_X4_diesStruckOnce (l : Launch) (E : ZE) (h0 q : Nat) (F : Nat → Nat) (n : Nat) (sd : Nat) (hn : n ≤ 24) (hF : ∀ j, F j < 10) (hs : sd < 2) : ZMi l yX4_diesStruckOnce cX4_diesStruckOnce 4 (some .int) rmX4_diesStruckOnce E [.ref h0, .int (nI sd)] [(h0, ob 4 [.ref q, .int (nI n)]), (q, ia E 96 (nA F))] (S := Unit) (fun r _ => r = nI (sg F sd n 10)) (fun _ => [(h0, ob 4 [.ref q, .int (nI n)]), (q, ia E 96 (nA F))]) := by
  refine z_mi (by decide) (Nat.le_of_ble_eq_true rfl) ?_
  intro p e s m args below meth c A Q ls cx hin hw hl ret
  obtain ⟨hx, hb, hml, hown, hts, hK, hN, hA, hlk⟩ := id cx
  have hl : lv_has ls 4 [(0, .ref h0), (1, .int (nI sd))] := hl
  refine lv_iconst (v := nI 0) hx hb dX4_diesStruckOnce_0 (by decide) ?_
  refine lv_istore_n (lv' := [(2, .int (nI 0)), (0, .ref h0), (1, .int (nI sd))]) hx hb dX4_diesStruckOnce_1 rfl hl (by decide) rfl (fun ls hl => ?_)
  refine lv_iconst (v := nI 0) hx hb dX4_diesStruckOnce_2 (by decide) ?_
  refine lv_istore_n (lv' := [(3, .int (nI 0)), (2, .int (nI 0)), (0, .ref h0), (1, .int (nI sd))]) hx hb dX4_diesStruckOnce_3 rfl hl (by decide) rfl (fun ls hl => ?_)
  have loop_4 : ∀ (fuel : Nat) (k : Nat) (hk : k ≤ 10) (hm : 10 - k < fuel) (H : Heap) (locs : List Loc) (ls : Array Slot), ZW E A s [(h0, ob 4 [.ref q, .int (nI n)]), (q, ia E 96 (nA F))] H locs → lv_has ls 4 [(0, .ref h0), (1, .int (nI sd)), (2, .int (nI (sg F sd n k))), (3, .int (nI k))] → W p l e rmX4_diesStruckOnce s m args below meth c H locs 0 0 Q (F0 m 4 ls []) := by
    intro fuel
    induction fuel with
    | zero => intro k hk hm; exact absurd hm (Nat.not_lt_zero _)
    | succ fuel ih_4 =>
      intro k hk hm H locs ls hw hl
      refine lv_iload_n hx hb dX4_diesStruckOnce_4 rfl (lv_at hl 3 rfl) ?_
      refine lv_bipush (v := nI 10) hx hb dX4_diesStruckOnce_5 (by decide) ?_
      refine z_icmp_ge hx hb (by omega) (by decide) 29 dX4_diesStruckOnce_7 (by decide) (fun c_7 => ?_) (fun c_7 => ?_)
      · refine lv_iload_n hx hb dX4_diesStruckOnce_29 rfl (lv_at hl 2 rfl) ?_
        have e_ : k = 10 := by omega
        exact ret (nI (sg F sd n k)) () 30 ls H locs dX4_diesStruckOnce_30 (congrArg nI (by rw [e_])) (hw)
      · refine lv_aload_n hx hb dX4_diesStruckOnce_10 rfl (lv_at hl 0 rfl) ?_
        refine lv_iload_n hx hb dX4_diesStruckOnce_11 rfl (lv_at hl 1 rfl) ?_
        refine lv_iload_n hx hb dX4_diesStruckOnce_12 rfl (lv_at hl 3 rfl) ?_
        refine z_ri0 (wr := []) cx hw [0, 1] [] rfl rfl (by decide) (by decide) rfl rfl (z_runV (As := [.int (nI sd), .int (nI k)]) (rest := []) cx hw rfl rfl [0, 1] rfl rfl (c_X4_struckWith l E h0 q F n sd k (by omega) (hF) (by omega) (by omega) H.size) mf_X4_struckWith wd_201 ⟨Nat.le_of_ble_eq_true rfl, Nat.le_of_ble_eq_true rfl⟩ hl (Nat.le_of_ble_eq_true rfl) dX4_diesStruckOnce_13 ⟨Nat.le_of_ble_eq_true rfl, Nat.le_of_ble_eq_true rfl⟩) (fun r _ H locs hp hw => ?_)
        have hr_13 := hp
        have hr_13 : r = nI (cnt F sd k n) := hr_13
        subst hr_13
        have hw : ZW E A s [(h0, ob 4 [.ref q, .int (nI n)]), (q, ia E 96 (nA F))] H locs := hw
        have h_ := cnt_le F sd k n
        refine lv_iconst (v := nI 1) hx hb dX4_diesStruckOnce_16 (by decide) ?_
        refine z_icmp_ne hx hb (by omega) (by decide) 23 dX4_diesStruckOnce_17 (by decide) (fun c_17 => ?_) (fun c_17 => ?_)
        · refine lv_iinc (v := nI (k + 1)) (lv' := [(3, .int (nI (k + 1))), (0, .ref h0), (1, .int (nI sd)), (2, .int (nI (sg F sd n k)))]) hx hb dX4_diesStruckOnce_23 hl (k := 3) rfl (nI_1 _) (by decide) rfl (fun ls hl => ?_)
          refine lv_goto (tgt := 4) hx hb dX4_diesStruckOnce_26 (by decide) ?_
          exact ih_4 (k + 1) (by omega) (by omega) _ _ ls (hw) (lv_add (lv_add (lv_add (lv_add (lv_nil hl) (lv_at hl 0 rfl)) (lv_eqv (lv_at hl 3 rfl) (zN (by simp [sg, c_17])))) (lv_at hl 2 rfl)) (lv_at hl 1 rfl))
        · refine lv_iinc (v := nI (sg F sd n k + 1)) (lv' := [(2, .int (nI (sg F sd n k + 1))), (0, .ref h0), (1, .int (nI sd)), (3, .int (nI k))]) hx hb dX4_diesStruckOnce_20 hl (k := 2) rfl (nI_1 _) (by decide) rfl (fun ls hl => ?_)
          refine lv_iinc (v := nI (k + 1)) (lv' := [(3, .int (nI (k + 1))), (2, .int (nI (sg F sd n k + 1))), (0, .ref h0), (1, .int (nI sd))]) hx hb dX4_diesStruckOnce_23 hl (k := 3) rfl (nI_1 _) (by decide) rfl (fun ls hl => ?_)
          refine lv_goto (tgt := 4) hx hb dX4_diesStruckOnce_26 (by decide) ?_
          exact ih_4 (k + 1) (by omega) (by omega) _ _ ls (hw) (lv_add (lv_add (lv_add (lv_add (lv_nil hl) (lv_at hl 0 rfl)) (lv_eqv (lv_at hl 1 rfl) (zN (by simp [sg, c_17])))) (lv_at hl 3 rfl)) (lv_at hl 2 rfl))
  exact loop_4 _ 0 (by omega) (Nat.lt_succ_self _) _ _ ls (hw) (lv_add (lv_add (lv_add (lv_add (lv_nil hl) (lv_at hl 0 rfl)) (lv_eqv (lv_at hl 1 rfl) (zN (by rfl)))) (lv_at hl 3 rfl)) (lv_at hl 2 rfl))

def rmX4_replaceDie : Room := { frames := 1, cells := 0, slots := 0, locals := 23 }
set_option maxHeartbeats 4000000 in
set_option maxRecDepth 100000 in
theorem c_X4_replaceDie (l : Launch) (E : ZE) (h0 q : Nat) (F : Nat → Nat) (n : Nat) (sd a b : Nat) (hn : n ≤ 24) (hF : ∀ j, F j < 10) (hs : sd < 2) (ha : a < 10) : ZMi l yX4_replaceDie cX4_replaceDie 6 (some .int) rmX4_replaceDie E [.ref h0, .int (nI sd), .int (nI a), .int (nI b)] [(h0, ob 4 [.ref q, .int (nI n)]), (q, ia E 96 (nA F))] (S := Unit) (fun r _ => r = nI (cnt F sd a n)) (fun _ => [(h0, ob 4 [.ref q, .int (nI n)]), (q, ia E 96 (nA (rep F sd a b n)))]) := by
  refine z_mi (by decide) (Nat.le_of_ble_eq_true rfl) ?_
  intro p e s m args below meth c A Q ls cx hin hw hl ret
  obtain ⟨hx, hb, hml, hown, hts, hK, hN, hA, hlk⟩ := id cx
  have hl : lv_has ls 6 [(0, .ref h0), (1, .int (nI sd)), (2, .int (nI a)), (3, .int (nI b))] := hl
  refine lv_iconst (v := nI 0) hx hb dX4_replaceDie_0 (by decide) ?_
  refine lv_istore (lv' := [(4, .int (nI 0)), (0, .ref h0), (1, .int (nI sd)), (2, .int (nI a)), (3, .int (nI b))]) hx hb dX4_replaceDie_1 hl (by decide) rfl (fun ls hl => ?_)
  refine lv_iconst (v := nI 0) hx hb dX4_replaceDie_3 (by decide) ?_
  refine lv_istore (lv' := [(5, .int (nI 0)), (4, .int (nI 0)), (0, .ref h0), (1, .int (nI sd)), (2, .int (nI a)), (3, .int (nI b))]) hx hb dX4_replaceDie_4 hl (by decide) rfl (fun ls hl => ?_)
  have loop_6 : ∀ (fuel : Nat) (k : Nat) (hk : k ≤ n) (hm : n - k < fuel) (H : Heap) (locs : List Loc) (ls : Array Slot), ZW E A s [(h0, ob 4 [.ref q, .int (nI n)]), (q, ia E 96 (nA (rep F sd a b k)))] H locs → lv_has ls 6 [(0, .ref h0), (1, .int (nI sd)), (2, .int (nI a)), (3, .int (nI b)), (4, .int (nI (cnt F sd a k))), (5, .int (nI k))] → W p l e rmX4_replaceDie s m args below meth c H locs 0 0 Q (F0 m 6 ls []) := by
    intro fuel
    induction fuel with
    | zero => intro k hk hm; exact absurd hm (Nat.not_lt_zero _)
    | succ fuel ih_6 =>
      intro k hk hm H locs ls hw hl
      refine lv_iload hx hb dX4_replaceDie_6 (lv_at hl 5 rfl) ?_
      refine lv_aload_n hx hb dX4_replaceDie_8 rfl (lv_at hl 0 rfl) ?_
      refine z_get cx hw 0 1 rfl rfl inlX4 (by decide) wd_37 rfl dX4_replaceDie_9 ?_
      refine z_icmp_ge hx hb (by omega) (by omega) 43 dX4_replaceDie_12 (by decide) (fun c_12 => ?_) (fun c_12 => ?_)
      · refine lv_iload hx hb dX4_replaceDie_43 (lv_at hl 4 rfl) ?_
        have e_ : k = n := by omega
        have e_r45_0 : (rep F sd a b k) = (rep F sd a b n) := by rw [e_]
        exact ret (nI (cnt F sd a k)) () 45 ls H locs dX4_replaceDie_45 (congrArg nI (by rw [e_])) ((hw).cast (zc rfl (zc (congrArg (fun z => ((q, ia E 96 (nA z)) : Nat × va_E)) e_r45_0) rfl)))
      · refine lv_aload_n hx hb dX4_replaceDie_15 rfl (lv_at hl 0 rfl) ?_
        refine lv_iload hx hb dX4_replaceDie_16 (lv_at hl 5 rfl) ?_
        refine lv_iload_n hx hb dX4_replaceDie_18 rfl (lv_at hl 1 rfl) ?_
        refine z_ri0 (wr := []) cx hw [0, 1] [] rfl rfl (by decide) (by decide) rfl rfl (z_runV (As := [.int (nI k), .int (nI sd)]) (rest := []) cx hw rfl rfl [0, 1] rfl rfl (c_X4_die l E h0 q (rep F sd a b k) n k sd (by omega) (by omega) H.size) mf_X4_die wd_159 ⟨Nat.le_of_ble_eq_true rfl, Nat.le_of_ble_eq_true rfl⟩ hl (Nat.le_of_ble_eq_true rfl) dX4_replaceDie_19 ⟨Nat.le_of_ble_eq_true rfl, Nat.le_of_ble_eq_true rfl⟩) (fun r _ H locs hp hw => ?_)
        have hr_19 := hp
        have hr_19 : r = nI ((rep F sd a b k) (4 * k + sd)) := hr_19
        subst hr_19
        have hw : ZW E A s [(h0, ob 4 [.ref q, .int (nI n)]), (q, ia E 96 (nA (rep F sd a b k)))] H locs := hw
        rw [rep_at F sd a b k]
        have h_ := hF (4 * k + sd)
        refine lv_iload_n hx hb dX4_replaceDie_22 rfl (lv_at hl 2 rfl) ?_
        refine z_icmp_ne hx hb (by omega) (by omega) 37 dX4_replaceDie_23 (by decide) (fun c_23 => ?_) (fun c_23 => ?_)
        · refine lv_iinc (v := nI (k + 1)) (lv' := [(5, .int (nI (k + 1))), (0, .ref h0), (1, .int (nI sd)), (2, .int (nI a)), (3, .int (nI b)), (4, .int (nI (cnt F sd a k)))]) hx hb dX4_replaceDie_37 hl (k := 5) rfl (nI_1 _) (by decide) rfl (fun ls hl => ?_)
          refine lv_goto (tgt := 6) hx hb dX4_replaceDie_40 (by decide) ?_
          have e_b6_0 : (rep F sd a b k) = (rep F sd a b (k + 1)) := by rw [rep_ne F a b k (by omega) c_23]
          exact ih_6 (k + 1) (by omega) (by omega) _ _ ls ((hw).cast (zc rfl (zc (congrArg (fun z => ((q, ia E 96 (nA z)) : Nat × va_E)) e_b6_0) rfl))) (lv_add (lv_add (lv_add (lv_add (lv_add (lv_add (lv_nil hl) (lv_at hl 0 rfl)) (lv_eqv (lv_at hl 5 rfl) (zN (by simp [cnt, c_23])))) (lv_at hl 4 rfl)) (lv_at hl 3 rfl)) (lv_at hl 2 rfl)) (lv_at hl 1 rfl))
        · refine lv_aload_n hx hb dX4_replaceDie_26 rfl (lv_at hl 0 rfl) ?_
          refine lv_iload hx hb dX4_replaceDie_27 (lv_at hl 5 rfl) ?_
          refine lv_iload_n hx hb dX4_replaceDie_29 rfl (lv_at hl 1 rfl) ?_
          refine lv_iload_n hx hb dX4_replaceDie_30 rfl (lv_at hl 3 rfl) ?_
          refine z_rv0 (wr := []) cx hw [0, 1] [] rfl rfl (by decide) (by decide) rfl rfl (z_runV (As := [.int (nI k), .int (nI sd), .int (nI b)]) (rest := []) cx hw rfl rfl [0, 1] rfl rfl (c_X4_putDie l E h0 q (rep F sd a b k) n k sd b (by omega) (by omega) H.size) mf_X4_putDie wd_166 ⟨Nat.le_of_ble_eq_true rfl, Nat.le_of_ble_eq_true rfl⟩ hl (Nat.le_of_ble_eq_true rfl) dX4_replaceDie_31 ⟨Nat.le_of_ble_eq_true rfl, Nat.le_of_ble_eq_true rfl⟩) (fun _ H locs hp hw => ?_)
          have hw : ZW E A s [(h0, ob 4 [.ref q, .int (nI n)]), (q, ia E 96 (nA (updN (rep F sd a b k) (4 * k + sd) b)))] H locs := hw
          refine lv_iinc (v := nI (cnt F sd a k + 1)) (lv' := [(4, .int (nI (cnt F sd a k + 1))), (0, .ref h0), (1, .int (nI sd)), (2, .int (nI a)), (3, .int (nI b)), (5, .int (nI k))]) hx hb dX4_replaceDie_34 hl (k := 4) rfl (nI_1 _) (by decide) rfl (fun ls hl => ?_)
          refine lv_iinc (v := nI (k + 1)) (lv' := [(5, .int (nI (k + 1))), (4, .int (nI (cnt F sd a k + 1))), (0, .ref h0), (1, .int (nI sd)), (2, .int (nI a)), (3, .int (nI b))]) hx hb dX4_replaceDie_37 hl (k := 5) rfl (nI_1 _) (by decide) rfl (fun ls hl => ?_)
          refine lv_goto (tgt := 6) hx hb dX4_replaceDie_40 (by decide) ?_
          have e_b6_0 : (updN (rep F sd a b k) (4 * k + sd) b) = (rep F sd a b (k + 1)) := by rw [rep_eq F a b k (by omega) c_23]
          exact ih_6 (k + 1) (by omega) (by omega) _ _ ls ((hw).cast (zc rfl (zc (congrArg (fun z => ((q, ia E 96 (nA z)) : Nat × va_E)) e_b6_0) rfl))) (lv_add (lv_add (lv_add (lv_add (lv_add (lv_add (lv_nil hl) (lv_at hl 0 rfl)) (lv_eqv (lv_at hl 1 rfl) (zN (by simp [cnt, c_23])))) (lv_at hl 5 rfl)) (lv_at hl 4 rfl)) (lv_at hl 3 rfl)) (lv_at hl 2 rfl))
  have e_i6_0 : F = (rep F sd a b 0) := by rw [rep_zero]
  exact loop_6 _ 0 (by omega) (Nat.lt_succ_self _) _ _ ls ((hw).cast (zc rfl (zc (congrArg (fun z => ((q, ia E 96 (nA z)) : Nat × va_E)) e_i6_0) rfl))) (lv_add (lv_add (lv_add (lv_add (lv_add (lv_add (lv_nil hl) (lv_at hl 0 rfl)) (lv_eqv (lv_at hl 1 rfl) (zN (by rfl)))) (lv_at hl 5 rfl)) (lv_at hl 4 rfl)) (lv_at hl 3 rfl)) (lv_at hl 2 rfl))

