theorem nI_succ_le {x : Int32} (h : nI 5 < x) : nI 6 ≤ x := by
  rw [Int32.lt_iff_toInt_lt] at h
  rw [Int32.le_iff_toInt_le]
  have h1 : (nI 5).toInt = 5 := by decide
  have h2 : (nI 6).toInt = 6 := by decide
  omega
theorem nI_succ_nle {x : Int32} (h : ¬ nI 5 < x) : ¬ nI 6 ≤ x := by
  rw [Int32.lt_iff_toInt_lt] at h
  rw [Int32.le_iff_toInt_le]
  have h1 : (nI 5).toInt = 5 := by decide
  have h2 : (nI 6).toInt = 6 := by decide
  omega
/-! ===== what the class's public methods answer, as numbers ===== -/
abbrev cl (x : Int32) : Nat := x.toNatClampNeg
theorem cl_nI {k n : Nat} (h : k < n) (hn : n ≤ 100000) : cl (nI k) = k := nI_clamp (by omega)
/-- counts of all dies below k together -/
def scs (F : Nat → Nat) (sd n : Nat) : Nat → Nat
  | 0 => 0
  | k + 1 => scs F sd n k + cnt F sd k n
theorem scs_0 (F : Nat → Nat) (sd k : Nat) : scs F sd 0 k = 0 := by
  induction k with
  | zero => rfl
  | succ k ih => simp [scs, ih, cnt]
theorem scs_s (F : Nat → Nat) (sd n k : Nat) : scs F sd (n + 1) k = scs F sd n k + (if F (4 * n + sd) < k then 1 else 0) := by
  induction k with
  | zero => simp [scs]
  | succ k ih =>
    simp only [scs, ih, cnt]
    by_cases h1 : F (4 * n + sd) < k
    · rw [if_pos h1, if_neg (by omega), if_pos (by omega)]; omega
    · rw [if_neg h1]
      by_cases h2 : F (4 * n + sd) = k
      · rw [if_pos h2, if_pos (by omega)]; omega
      · rw [if_neg h2, if_neg (by omega)]; omega
theorem scs_all {F : Nat → Nat} (h : ∀ j, F j < 10) (sd n : Nat) : scs F sd n 10 = n := by
  induction n with
  | zero => exact scs_0 F sd 10
  | succ n ih => rw [scs_s, ih, if_pos (h _)]
theorem sg_scs (F : Nat → Nat) (sd n k : Nat) : sg F sd n k ≤ scs F sd n k := by
  induction k with
  | zero => simp [sg, scs]
  | succ k ih => simp only [sg, scs]; split <;> omega
theorem kn_scs (F : Nat → Nat) (sd n k : Nat) : kn F sd n k ≤ scs F sd n k := by
  induction k with
  | zero => simp [kn, scs]
  | succ k ih => simp only [kn, scs]; split <;> omega
theorem sg_n {F : Nat → Nat} (h : ∀ j, F j < 10) (sd n : Nat) : sg F sd n 10 ≤ n := by
  have := sg_scs F sd n 10
  rw [scs_all h] at this
  exact this
theorem kn_n {F : Nat → Nat} (h : ∀ j, F j < 10) (sd n : Nat) : kn F sd n 10 ≤ n := by
  have := kn_scs F sd n 10
  rw [scs_all h] at this
  exact this
def dvf (n d : Nat) : Nat := if n < 2 * d then 1124 * n - 1016 * d else if n < 3 * d then 1069 * n - 843 * d else 1016 * n - 197 * d
theorem dvf_pos {n d : Nat} (h : d ≤ n) (hne : ¬ n = d) (hn : n ≤ 24) : 0 < dvf n d ∧ dvf n d < 1000000 := by
  simp only [dvf]
  split
  · omega
  · split <;> omega
abbrev CS : Type := (Nat → Nat) × Nat × (Nat → Nat) × (Nat → Nat) × Nat × Nat
/-- the state with new cells F2 and count n2, the old one kept in the ring -/
def sav (t : CS) (F2 : Nat → Nat) (n2 : Nat) : CS := (F2, n2, cpyN t.1 t.2.2.1 0 (96 * t.2.2.2.2.2) 96, updN t.2.2.2.1 t.2.2.2.2.2 t.2.1, incN t.2.2.2.2.1, nxtN t.2.2.2.2.2)
def pushF (F : Nat → Nat) (n d1 d2 w1 w2 : Nat) : Nat → Nat := updN (updN (updN (updN F (4 * n + 0) d1) (4 * n + 1) d2) (4 * n + 2 + 0) w1) (4 * n + 2 + 1) w2
def okA (x1 x2 x3 x4 : Int32) : Bool := inR x1 10 && inR x2 10 && inR x3 6 && inR x4 6
def addS (t : CS) (x1 x2 x3 x4 : Int32) : CS := if okA x1 x2 x3 x4 = true ∧ t.2.1 < 24 then sav t (pushF t.1 t.2.1 (cl x1) (cl x2) (cl x3) (cl x4)) (t.2.1 + 1) else t
def addR (n : Nat) (x1 x2 x3 x4 : Int32) : Int32 := if okA x1 x2 x3 x4 = true then (if n < 24 then nI n else -2) else -1
def rmvS (t : CS) (x : Int32) : CS := if inR x t.2.1 = true then sav t (rmv t.1 (cl x) t.2.1) (t.2.1 - 1) else t
def rmvR (n : Nat) (x : Int32) : Int32 := if inR x n = true then nI (n - 1) else -1
def okW (n : Nat) (x sd w : Int32) : Bool := inR x n && inR sd 2 && inR w 6
def setS (t : CS) (x sd w : Int32) : CS := if okW t.2.1 x sd w = true then sav t (updN t.1 (4 * cl x + 2 + cl sd) (cl w)) t.2.1 else t
def setR (F : Nat → Nat) (n : Nat) (x sd w : Int32) : Int32 := if okW n x sd w = true then nI (F (4 * cl x + 2 + cl sd)) else -1
def okM (sd a b : Int32) : Bool := inR sd 2 && inR a 10 && inR b 10
def mrgS (t : CS) (sd a b : Int32) : CS := if okM sd a b = true ∧ 0 < cnt t.1 (cl sd) (cl a) t.2.1 then sav t (if cl a = cl b then t.1 else rep t.1 (cl sd) (cl a) (cl b) t.2.1) t.2.1 else t
def mrgR (F : Nat → Nat) (n : Nat) (sd a b : Int32) : Int32 := if okM sd a b = true then (if cnt F (cl sd) (cl a) n = 0 then -3 else if cl a = cl b then nI 0 else nI (cnt F (cl sd) (cl a) n)) else -1
def dofR (F : Nat → Nat) (n : Nat) (x sd : Int32) : Int32 := if (inR x n && inR sd 2) = true then nI (F (4 * cl x + cl sd)) else -1
def dcR (F : Nat → Nat) (n : Nat) (sd : Int32) : Int32 := if inR sd 2 = true then nI (kn F (cl sd) n 10) else -1
def frR (F : Nat → Nat) (n : Nat) (sd a : Int32) : Int32 := if (inR sd 2 && inR a 10) = true then nI (cnt F (cl sd) (cl a) n) else -1
def sgR (F : Nat → Nat) (n : Nat) (sd : Int32) : Int32 := if inR sd 2 = true then nI (sg F (cl sd) n 10) else -1
def cvR (F : Nat → Nat) (n : Nat) (sd : Int32) : Int32 := if inR sd 2 = true then (if n - sg F (cl sd) n 10 = 0 then -3 else nI (1000 * n * kn F (cl sd) n 10 / (n - sg F (cl sd) n 10))) else -1
def feR (F : Nat → Nat) (n : Nat) (sd : Int32) : Int32 := if inR sd 2 = true then (if n < 2 ∨ n = kn F (cl sd) n 10 then -3 else nI (n * kn F (cl sd) n 10 * 1000 * 1000 / dvf n (kn F (cl sd) n 10))) else -1
def undS (t : CS) : CS := if t.2.2.2.2.1 = 0 then t else (fun j => t.2.2.1 (96 * prvN t.2.2.2.2.2 + j), t.2.2.2.1 (prvN t.2.2.2.2.2), t.2.2.1, t.2.2.2.1, t.2.2.2.2.1 - 1, prvN t.2.2.2.2.2)
def undR (sv : Nat) : Int32 := if sv = 0 then -3 else nI (sv - 1)
def erP (x : Int32) (mm : Nat) : Int32 := if x < 0 then -1 else if inR x mm = true then nI 0 else -3
def catR (x : Int32) (mm : Nat) (D0 D1 : Nat → Nat) : Int32 := if inR x mm = true then nI (10 * D0 (cl x) + D1 (cl x)) else if x < 0 then -1 else -3
def csR (D0 D1 : Nat → Nat) (mm : Nat) (sd d : Int32) : Int32 := if (inR sd 2 && inR d 10) = true then (if dar (cn D0 D1 (-1) mm mm) (10 * cl sd + cl d) = 0 then -3 else nI (dar (cn D0 D1 (-1) mm mm) (10 * cl sd + cl d))) else -1
def bc (D0 D1 : Nat → Nat) (mm : Nat) : Nat → Nat
  | 0 => 0
  | k + 1 => bc D0 D1 mm k + (if fa D0 D1 mm k = true then 1 else 0)
def ibR (x : Int32) (mm : Nat) (D0 D1 : Nat → Nat) : Int32 := if inR x mm = true then bI (fa D0 D1 mm (cl x)) else if x < 0 then -1 else -3
def cmpR (x y : Int32) (mm : Nat) (er : Nat → Nat → Bool) : Int32 := if inR x mm = true ∧ inR y mm = true ∧ ¬ cl x = cl y then (if er (cl x) (cl y) = true then nI 1 else if er (cl y) (cl x) = true then nI 2 else nI 0) else -1
def ordR (x : Int32) (mm : Nat) (ok : Bool) (f : Nat → Nat) : Int32 := if inR x mm = true then (if ok = true then nI (f (cl x)) else -4) else if x < 0 then -1 else -3
theorem erP_neg {x : Int32} {mm : Nat} (h : x < 0) : erP x mm = -1 := if_pos h

def rmX5_isSide : Room := { frames := 0, cells := 0, slots := 0, locals := 0 }
set_option maxHeartbeats 4000000 in
set_option maxRecDepth 100000 in
theorem c_X5_isSide (l : Launch) (E : ZE) (x : Int32)  : ZMi l yX5_isSide cX5_isSide 1 (some .boolean) rmX5_isSide E [.int x] [] (S := Unit) (fun r _ => r = bI (inR x 2)) (fun _ => []) := by
  refine z_mz (by decide) (Nat.le_of_ble_eq_true rfl) ?_
  intro p e s m args below meth c A Q ls cx hin hw hl ret
  obtain ⟨hx, hb, hml, hown, hts, hK, hN, hA, hlk⟩ := id cx
  have hl : lv_has ls 1 [(0, .int x)] := hl
  refine lv_iload_n hx hb dX5_isSide_0 rfl (lv_at hl 0 rfl) ?_
  refine lv_if_lt (tgt := 13) hx hb dX5_isSide_1 (by decide) (fun c_1 => ?_) (fun c_1 => ?_)
  · refine lv_iconst (v := nI 0) hx hb dX5_isSide_13 (by decide) ?_
    exact ret false () 14 ls s.heap [] dX5_isSide_14 (congrArg bI (by rw [inR_neg c_1])) (hw)
  · refine lv_iload_n hx hb dX5_isSide_4 rfl (lv_at hl 0 rfl) ?_
    refine lv_iconst (v := nI 2) hx hb dX5_isSide_5 (by decide) ?_
    refine lv_icmp_ge (tgt := 13) hx hb dX5_isSide_6 (by decide) (fun c_6 => ?_) (fun c_6 => ?_)
    · refine lv_iconst (v := nI 0) hx hb dX5_isSide_13 (by decide) ?_
      exact ret false () 14 ls s.heap [] dX5_isSide_14 (congrArg bI (by rw [inR_ge (by decide) c_6])) (hw)
    · refine lv_iconst (v := nI 1) hx hb dX5_isSide_9 (by decide) ?_
      refine lv_goto (tgt := 14) hx hb dX5_isSide_10 (by decide) ?_
      exact ret true () 14 ls s.heap [] dX5_isSide_14 (congrArg bI (by rw [inR_in (by decide) c_1 c_6])) (hw)

def rmX5_isDie : Room := { frames := 0, cells := 0, slots := 0, locals := 0 }
set_option maxHeartbeats 4000000 in
set_option maxRecDepth 100000 in
theorem c_X5_isDie (l : Launch) (E : ZE) (x : Int32)  : ZMi l yX5_isDie cX5_isDie 1 (some .boolean) rmX5_isDie E [.int x] [] (S := Unit) (fun r _ => r = bI (inR x 10)) (fun _ => []) := by
  refine z_mz (by decide) (Nat.le_of_ble_eq_true rfl) ?_
  intro p e s m args below meth c A Q ls cx hin hw hl ret
  obtain ⟨hx, hb, hml, hown, hts, hK, hN, hA, hlk⟩ := id cx
  have hl : lv_has ls 1 [(0, .int x)] := hl
  refine lv_iload_n hx hb dX5_isDie_0 rfl (lv_at hl 0 rfl) ?_
  refine lv_if_lt (tgt := 14) hx hb dX5_isDie_1 (by decide) (fun c_1 => ?_) (fun c_1 => ?_)
  · refine lv_iconst (v := nI 0) hx hb dX5_isDie_14 (by decide) ?_
    exact ret false () 15 ls s.heap [] dX5_isDie_15 (congrArg bI (by rw [inR_neg c_1])) (hw)
  · refine lv_iload_n hx hb dX5_isDie_4 rfl (lv_at hl 0 rfl) ?_
    refine lv_bipush (v := nI 10) hx hb dX5_isDie_5 (by decide) ?_
    refine lv_icmp_ge (tgt := 14) hx hb dX5_isDie_7 (by decide) (fun c_7 => ?_) (fun c_7 => ?_)
    · refine lv_iconst (v := nI 0) hx hb dX5_isDie_14 (by decide) ?_
      exact ret false () 15 ls s.heap [] dX5_isDie_15 (congrArg bI (by rw [inR_ge (by decide) c_7])) (hw)
    · refine lv_iconst (v := nI 1) hx hb dX5_isDie_10 (by decide) ?_
      refine lv_goto (tgt := 15) hx hb dX5_isDie_11 (by decide) ?_
      exact ret true () 15 ls s.heap [] dX5_isDie_15 (congrArg bI (by rw [inR_in (by decide) c_1 c_7])) (hw)

def rmX5_isWear : Room := { frames := 0, cells := 0, slots := 0, locals := 0 }
set_option maxHeartbeats 4000000 in
set_option maxRecDepth 100000 in
theorem c_X5_isWear (l : Launch) (E : ZE) (x : Int32)  : ZMi l yX5_isWear cX5_isWear 1 (some .boolean) rmX5_isWear E [.int x] [] (S := Unit) (fun r _ => r = bI (inR x 6)) (fun _ => []) := by
  refine z_mz (by decide) (Nat.le_of_ble_eq_true rfl) ?_
  intro p e s m args below meth c A Q ls cx hin hw hl ret
  obtain ⟨hx, hb, hml, hown, hts, hK, hN, hA, hlk⟩ := id cx
  have hl : lv_has ls 1 [(0, .int x)] := hl
  refine lv_iload_n hx hb dX5_isWear_0 rfl (lv_at hl 0 rfl) ?_
  refine lv_if_lt (tgt := 13) hx hb dX5_isWear_1 (by decide) (fun c_1 => ?_) (fun c_1 => ?_)
  · refine lv_iconst (v := nI 0) hx hb dX5_isWear_13 (by decide) ?_
    exact ret false () 14 ls s.heap [] dX5_isWear_14 (congrArg bI (by rw [inR_neg c_1])) (hw)
  · refine lv_iload_n hx hb dX5_isWear_4 rfl (lv_at hl 0 rfl) ?_
    refine lv_iconst (v := nI 5) hx hb dX5_isWear_5 (by decide) ?_
    refine lv_icmp_gt (tgt := 13) hx hb dX5_isWear_6 (by decide) (fun c_6 => ?_) (fun c_6 => ?_)
    · refine lv_iconst (v := nI 0) hx hb dX5_isWear_13 (by decide) ?_
      exact ret false () 14 ls s.heap [] dX5_isWear_14 (congrArg bI (by rw [inR_ge (by decide) (nI_succ_le c_6)])) (hw)
    · refine lv_iconst (v := nI 1) hx hb dX5_isWear_9 (by decide) ?_
      refine lv_goto (tgt := 14) hx hb dX5_isWear_10 (by decide) ?_
      exact ret true () 14 ls s.heap [] dX5_isWear_14 (congrArg bI (by rw [inR_in (by decide) c_1 (nI_succ_nle c_6)])) (hw)

def rmX5_addSpecimen : Room := { frames := 2, cells := 0, slots := 0, locals := 81 }
set_option maxHeartbeats 4000000 in
set_option maxRecDepth 100000 in
theorem c_X5_addSpecimen (l : Launch) (E : ZE) (h0 hS hH hC hG hR : Nat) (q : Nat) (F : Nat → Nat) (n : Nat) (qc qn : Nat) (G C : Nat → Nat) (sv nx : Nat) (x1 x2 x3 x4 : Int32) (hn : n ≤ 24) (hF : ∀ j, F j < 10) (hnx : nx < 5) (hsv : sv ≤ 5) : ZMi l yX5_addSpecimen cX5_addSpecimen 6 (some .int) rmX5_addSpecimen E [.ref h0, .int x1, .int x2, .int x3, .int x4] [(h0, ob 5 [.ref hS, .ref hH, .ref hC, .ref hG, .ref hR]), (hS, ob 4 [.ref q, .int (nI n)]), (q, ia E 96 (nA F)), (hH, ob 2 [.ref qc, .ref qn, .int (nI sv), .int (nI nx)]), (qc, ia E 480 (nA G)), (qn, ia E 5 (nA C))] (S := Unit) (fun r _ => r = addR n x1 x2 x3 x4) (fun _ => [(h0, ob 5 [.ref hS, .ref hH, .ref hC, .ref hG, .ref hR]), (hS, ob 4 [.ref q, .int (nI ((addS (F, n, G, C, sv, nx) x1 x2 x3 x4).2.1))]), (q, ia E 96 (nA ((addS (F, n, G, C, sv, nx) x1 x2 x3 x4).1))), (hH, ob 2 [.ref qc, .ref qn, .int (nI ((addS (F, n, G, C, sv, nx) x1 x2 x3 x4).2.2.2.2.1)), .int (nI ((addS (F, n, G, C, sv, nx) x1 x2 x3 x4).2.2.2.2.2))]), (qc, ia E 480 (nA ((addS (F, n, G, C, sv, nx) x1 x2 x3 x4).2.2.1))), (qn, ia E 5 (nA ((addS (F, n, G, C, sv, nx) x1 x2 x3 x4).2.2.2.1)))]) := by
  refine z_mi (by decide) (Nat.le_of_ble_eq_true rfl) ?_
  intro p e s m args below meth c A Q ls cx hin hw hl ret
  obtain ⟨hx, hb, hml, hown, hts, hK, hN, hA, hlk⟩ := id cx
  have hl : lv_has ls 6 [(0, .ref h0), (1, .int x1), (2, .int x2), (3, .int x3), (4, .int x4)] := hl
  refine lv_iload_n hx hb dX5_addSpecimen_0 rfl (lv_at hl 1 rfl) ?_
  refine z_ri0 (wr := [(h0, ob 5 [.ref hS, .ref hH, .ref hC, .ref hG, .ref hR]), (hS, ob 4 [.ref q, .int (nI n)]), (q, ia E 96 (nA F)), (hH, ob 2 [.ref qc, .ref qn, .int (nI sv), .int (nI nx)]), (qc, ia E 480 (nA G)), (qn, ia E 5 (nA C))]) cx hw [] [0, 1, 2, 3, 4, 5] rfl rfl (by decide) (by decide) rfl rfl (z_runS (As := [.int x1]) (rest := []) cx hw [] rfl rfl (c_X5_isDie l E x1  s.heap.size) mf_X5_isDie wd_85 ⟨Nat.le_of_ble_eq_true rfl, Nat.le_of_ble_eq_true rfl⟩ hl (Nat.le_of_ble_eq_true rfl) dX5_addSpecimen_1 ⟨Nat.le_of_ble_eq_true rfl, Nat.le_of_ble_eq_true rfl⟩) (fun r _ H locs hp hw => ?_)
  have hr_1 := hp
  have hr_1 : r = bI (inR x1 10) := hr_1
  subst hr_1
  have hw : ZW E A s [(h0, ob 5 [.ref hS, .ref hH, .ref hC, .ref hG, .ref hR]), (hS, ob 4 [.ref q, .int (nI n)]), (q, ia E 96 (nA F)), (hH, ob 2 [.ref qc, .ref qn, .int (nI sv), .int (nI nx)]), (qc, ia E 480 (nA G)), (qn, ia E 5 (nA C))] H locs := hw
  refine z_ifb_eq hx hb 29 dX5_addSpecimen_4 (by decide) (fun c_4 => ?_) (fun c_4 => ?_)
  · refine lv_iconst (v := (-1)) hx hb dX5_addSpecimen_29 (by decide) ?_
    have ho_ : okA (x1) (x2) (x3) (x4) = false := by simp [okA, c_4]
    have hs_ : addS (F, n, G, C, sv, nx) (x1) (x2) (x3) (x4) = (F, n, G, C, sv, nx) := if_neg (fun z => by rw [ho_] at z; exact absurd z.1 (by decide))
    have e_r30_0 : n = ((addS (F, n, G, C, sv, nx) x1 x2 x3 x4).2.1) := by rw [hs_]
    have e_r30_1 : F = ((addS (F, n, G, C, sv, nx) x1 x2 x3 x4).1) := by rw [hs_]
    have e_r30_2 : sv = ((addS (F, n, G, C, sv, nx) x1 x2 x3 x4).2.2.2.2.1) := by rw [hs_]
    have e_r30_3 : nx = ((addS (F, n, G, C, sv, nx) x1 x2 x3 x4).2.2.2.2.2) := by rw [hs_]
    have e_r30_4 : G = ((addS (F, n, G, C, sv, nx) x1 x2 x3 x4).2.2.1) := by rw [hs_]
    have e_r30_5 : C = ((addS (F, n, G, C, sv, nx) x1 x2 x3 x4).2.2.2.1) := by rw [hs_]
    exact ret ((-1)) () 30 ls H locs dX5_addSpecimen_30 (by simp only [addR, ho_]; rfl) ((hw).cast (zc rfl (zc (congrArg (fun z => ((hS, ob 4 [.ref q, .int (nI z)]) : Nat × va_E)) e_r30_0) (zc (congrArg (fun z => ((q, ia E 96 (nA z)) : Nat × va_E)) e_r30_1) (zc ((congrArg (fun z => ((hH, ob 2 [.ref qc, .ref qn, .int (nI z), .int (nI nx)]) : Nat × va_E)) e_r30_2).trans (congrArg (fun z => ((hH, ob 2 [.ref qc, .ref qn, .int (nI ((addS (F, n, G, C, sv, nx) x1 x2 x3 x4).2.2.2.2.1)), .int (nI z)]) : Nat × va_E)) e_r30_3)) (zc (congrArg (fun z => ((qc, ia E 480 (nA z)) : Nat × va_E)) e_r30_4) (zc (congrArg (fun z => ((qn, ia E 5 (nA z)) : Nat × va_E)) e_r30_5) rfl)))))))
  · obtain ⟨d1, hd1, rfl⟩ := inR_get c_4 (by omega)
    refine lv_iload_n hx hb dX5_addSpecimen_7 rfl (lv_at hl 2 rfl) ?_
    refine z_ri0 (wr := [(h0, ob 5 [.ref hS, .ref hH, .ref hC, .ref hG, .ref hR]), (hS, ob 4 [.ref q, .int (nI n)]), (q, ia E 96 (nA F)), (hH, ob 2 [.ref qc, .ref qn, .int (nI sv), .int (nI nx)]), (qc, ia E 480 (nA G)), (qn, ia E 5 (nA C))]) cx hw [] [0, 1, 2, 3, 4, 5] rfl rfl (by decide) (by decide) rfl rfl (z_runS (As := [.int x2]) (rest := []) cx hw [] rfl rfl (c_X5_isDie l E x2  H.size) mf_X5_isDie wd_85 ⟨Nat.le_of_ble_eq_true rfl, Nat.le_of_ble_eq_true rfl⟩ hl (Nat.le_of_ble_eq_true rfl) dX5_addSpecimen_8 ⟨Nat.le_of_ble_eq_true rfl, Nat.le_of_ble_eq_true rfl⟩) (fun r _ H locs hp hw => ?_)
    have hr_8 := hp
    have hr_8 : r = bI (inR x2 10) := hr_8
    subst hr_8
    have hw : ZW E A s [(h0, ob 5 [.ref hS, .ref hH, .ref hC, .ref hG, .ref hR]), (hS, ob 4 [.ref q, .int (nI n)]), (q, ia E 96 (nA F)), (hH, ob 2 [.ref qc, .ref qn, .int (nI sv), .int (nI nx)]), (qc, ia E 480 (nA G)), (qn, ia E 5 (nA C))] H locs := hw
    refine z_ifb_eq hx hb 29 dX5_addSpecimen_11 (by decide) (fun c_11 => ?_) (fun c_11 => ?_)
    · refine lv_iconst (v := (-1)) hx hb dX5_addSpecimen_29 (by decide) ?_
      have ho_ : okA (nI d1) (x2) (x3) (x4) = false := by simp [okA, c_11]
      have hs_ : addS (F, n, G, C, sv, nx) (nI d1) (x2) (x3) (x4) = (F, n, G, C, sv, nx) := if_neg (fun z => by rw [ho_] at z; exact absurd z.1 (by decide))
      have e_r30_0 : n = ((addS (F, n, G, C, sv, nx) (nI d1) x2 x3 x4).2.1) := by rw [hs_]
      have e_r30_1 : F = ((addS (F, n, G, C, sv, nx) (nI d1) x2 x3 x4).1) := by rw [hs_]
      have e_r30_2 : sv = ((addS (F, n, G, C, sv, nx) (nI d1) x2 x3 x4).2.2.2.2.1) := by rw [hs_]
      have e_r30_3 : nx = ((addS (F, n, G, C, sv, nx) (nI d1) x2 x3 x4).2.2.2.2.2) := by rw [hs_]
      have e_r30_4 : G = ((addS (F, n, G, C, sv, nx) (nI d1) x2 x3 x4).2.2.1) := by rw [hs_]
      have e_r30_5 : C = ((addS (F, n, G, C, sv, nx) (nI d1) x2 x3 x4).2.2.2.1) := by rw [hs_]
      exact ret ((-1)) () 30 ls H locs dX5_addSpecimen_30 (by simp only [addR, ho_]; rfl) ((hw).cast (zc rfl (zc (congrArg (fun z => ((hS, ob 4 [.ref q, .int (nI z)]) : Nat × va_E)) e_r30_0) (zc (congrArg (fun z => ((q, ia E 96 (nA z)) : Nat × va_E)) e_r30_1) (zc ((congrArg (fun z => ((hH, ob 2 [.ref qc, .ref qn, .int (nI z), .int (nI nx)]) : Nat × va_E)) e_r30_2).trans (congrArg (fun z => ((hH, ob 2 [.ref qc, .ref qn, .int (nI ((addS (F, n, G, C, sv, nx) (nI d1) x2 x3 x4).2.2.2.2.1)), .int (nI z)]) : Nat × va_E)) e_r30_3)) (zc (congrArg (fun z => ((qc, ia E 480 (nA z)) : Nat × va_E)) e_r30_4) (zc (congrArg (fun z => ((qn, ia E 5 (nA z)) : Nat × va_E)) e_r30_5) rfl)))))))
    · obtain ⟨d2, hd2, rfl⟩ := inR_get c_11 (by omega)
      refine lv_iload_n hx hb dX5_addSpecimen_14 rfl (lv_at hl 3 rfl) ?_
      refine z_ri0 (wr := [(h0, ob 5 [.ref hS, .ref hH, .ref hC, .ref hG, .ref hR]), (hS, ob 4 [.ref q, .int (nI n)]), (q, ia E 96 (nA F)), (hH, ob 2 [.ref qc, .ref qn, .int (nI sv), .int (nI nx)]), (qc, ia E 480 (nA G)), (qn, ia E 5 (nA C))]) cx hw [] [0, 1, 2, 3, 4, 5] rfl rfl (by decide) (by decide) rfl rfl (z_runS (As := [.int x3]) (rest := []) cx hw [] rfl rfl (c_X5_isWear l E x3  H.size) mf_X5_isWear wd_88 ⟨Nat.le_of_ble_eq_true rfl, Nat.le_of_ble_eq_true rfl⟩ hl (Nat.le_of_ble_eq_true rfl) dX5_addSpecimen_15 ⟨Nat.le_of_ble_eq_true rfl, Nat.le_of_ble_eq_true rfl⟩) (fun r _ H locs hp hw => ?_)
      have hr_15 := hp
      have hr_15 : r = bI (inR x3 6) := hr_15
      subst hr_15
      have hw : ZW E A s [(h0, ob 5 [.ref hS, .ref hH, .ref hC, .ref hG, .ref hR]), (hS, ob 4 [.ref q, .int (nI n)]), (q, ia E 96 (nA F)), (hH, ob 2 [.ref qc, .ref qn, .int (nI sv), .int (nI nx)]), (qc, ia E 480 (nA G)), (qn, ia E 5 (nA C))] H locs := hw
      refine z_ifb_eq hx hb 29 dX5_addSpecimen_18 (by decide) (fun c_18 => ?_) (fun c_18 => ?_)
      · refine lv_iconst (v := (-1)) hx hb dX5_addSpecimen_29 (by decide) ?_
        have ho_ : okA (nI d1) (nI d2) (x3) (x4) = false := by simp [okA, c_18]
        have hs_ : addS (F, n, G, C, sv, nx) (nI d1) (nI d2) (x3) (x4) = (F, n, G, C, sv, nx) := if_neg (fun z => by rw [ho_] at z; exact absurd z.1 (by decide))
        have e_r30_0 : n = ((addS (F, n, G, C, sv, nx) (nI d1) (nI d2) x3 x4).2.1) := by rw [hs_]
        have e_r30_1 : F = ((addS (F, n, G, C, sv, nx) (nI d1) (nI d2) x3 x4).1) := by rw [hs_]
        have e_r30_2 : sv = ((addS (F, n, G, C, sv, nx) (nI d1) (nI d2) x3 x4).2.2.2.2.1) := by rw [hs_]
        have e_r30_3 : nx = ((addS (F, n, G, C, sv, nx) (nI d1) (nI d2) x3 x4).2.2.2.2.2) := by rw [hs_]
        have e_r30_4 : G = ((addS (F, n, G, C, sv, nx) (nI d1) (nI d2) x3 x4).2.2.1) := by rw [hs_]
        have e_r30_5 : C = ((addS (F, n, G, C, sv, nx) (nI d1) (nI d2) x3 x4).2.2.2.1) := by rw [hs_]
        exact ret ((-1)) () 30 ls H locs dX5_addSpecimen_30 (by simp only [addR, ho_]; rfl) ((hw).cast (zc rfl (zc (congrArg (fun z => ((hS, ob 4 [.ref q, .int (nI z)]) : Nat × va_E)) e_r30_0) (zc (congrArg (fun z => ((q, ia E 96 (nA z)) : Nat × va_E)) e_r30_1) (zc ((congrArg (fun z => ((hH, ob 2 [.ref qc, .ref qn, .int (nI z), .int (nI nx)]) : Nat × va_E)) e_r30_2).trans (congrArg (fun z => ((hH, ob 2 [.ref qc, .ref qn, .int (nI ((addS (F, n, G, C, sv, nx) (nI d1) (nI d2) x3 x4).2.2.2.2.1)), .int (nI z)]) : Nat × va_E)) e_r30_3)) (zc (congrArg (fun z => ((qc, ia E 480 (nA z)) : Nat × va_E)) e_r30_4) (zc (congrArg (fun z => ((qn, ia E 5 (nA z)) : Nat × va_E)) e_r30_5) rfl)))))))
      · obtain ⟨w1, hw1, rfl⟩ := inR_get c_18 (by omega)
        refine lv_iload hx hb dX5_addSpecimen_21 (lv_at hl 4 rfl) ?_
        refine z_ri0 (wr := [(h0, ob 5 [.ref hS, .ref hH, .ref hC, .ref hG, .ref hR]), (hS, ob 4 [.ref q, .int (nI n)]), (q, ia E 96 (nA F)), (hH, ob 2 [.ref qc, .ref qn, .int (nI sv), .int (nI nx)]), (qc, ia E 480 (nA G)), (qn, ia E 5 (nA C))]) cx hw [] [0, 1, 2, 3, 4, 5] rfl rfl (by decide) (by decide) rfl rfl (z_runS (As := [.int x4]) (rest := []) cx hw [] rfl rfl (c_X5_isWear l E x4  H.size) mf_X5_isWear wd_88 ⟨Nat.le_of_ble_eq_true rfl, Nat.le_of_ble_eq_true rfl⟩ hl (Nat.le_of_ble_eq_true rfl) dX5_addSpecimen_23 ⟨Nat.le_of_ble_eq_true rfl, Nat.le_of_ble_eq_true rfl⟩) (fun r _ H locs hp hw => ?_)
        have hr_23 := hp
        have hr_23 : r = bI (inR x4 6) := hr_23
        subst hr_23
        have hw : ZW E A s [(h0, ob 5 [.ref hS, .ref hH, .ref hC, .ref hG, .ref hR]), (hS, ob 4 [.ref q, .int (nI n)]), (q, ia E 96 (nA F)), (hH, ob 2 [.ref qc, .ref qn, .int (nI sv), .int (nI nx)]), (qc, ia E 480 (nA G)), (qn, ia E 5 (nA C))] H locs := hw
        refine z_ifb_ne hx hb 31 dX5_addSpecimen_26 (by decide) (fun c_26 => ?_) (fun c_26 => ?_)
        · obtain ⟨w2, hw2, rfl⟩ := inR_get c_26 (by omega)
          refine lv_aload_n hx hb dX5_addSpecimen_31 rfl (lv_at hl 0 rfl) ?_
          refine z_get cx hw 0 0 rfl rfl inlX5 (by decide) wd_15 rfl dX5_addSpecimen_32 ?_
          refine z_getN cx hw 1 1 rfl rfl inlX4 (by decide) (nf_X5_51 hN) rfl dX5_addSpecimen_35 ?_
          refine lv_bipush (v := nI 24) hx hb dX5_addSpecimen_38 (by decide) ?_
          refine z_icmp_lt hx hb (by omega) (by decide) 46 dX5_addSpecimen_40 (by decide) (fun c_40 => ?_) (fun c_40 => ?_)
          · refine lv_aload_n hx hb dX5_addSpecimen_46 rfl (lv_at hl 0 rfl) ?_
            refine z_get cx hw 0 1 rfl rfl inlX5 (by decide) wd_19 rfl dX5_addSpecimen_47 ?_
            refine lv_aload_n hx hb dX5_addSpecimen_50 rfl (lv_at hl 0 rfl) ?_
            refine z_get cx hw 0 0 rfl rfl inlX5 (by decide) wd_15 rfl dX5_addSpecimen_51 ?_
            refine z_rv0 (wr := [(h0, ob 5 [.ref hS, .ref hH, .ref hC, .ref hG, .ref hR])]) cx hw [3, 4, 5, 1, 2] [0] rfl rfl (by decide) (by decide) rfl rfl (z_runVN (As := [.ref hS]) (rest := []) cx hw rfl rfl [3, 4, 5, 1, 2] rfl rfl (c_X2_save l E hH qc qn G C sv nx hS q F n (by omega) (by omega) H.size) mf_X2_save (nm_X5_55 hN) ⟨Nat.le_of_ble_eq_true rfl, Nat.le_of_ble_eq_true rfl⟩ hl (Nat.le_of_ble_eq_true rfl) dX5_addSpecimen_54 ⟨Nat.le_of_ble_eq_true rfl, Nat.le_of_ble_eq_true rfl⟩) (fun _ H locs hp hw => ?_)
            have hw : ZW E A s [(h0, ob 5 [.ref hS, .ref hH, .ref hC, .ref hG, .ref hR]), (hH, ob 2 [.ref qc, .ref qn, .int (nI (incN sv)), .int (nI (nxtN nx))]), (qc, ia E 480 (nA (cpyN F G 0 (96 * nx) 96))), (qn, ia E 5 (nA (updN C nx n))), (hS, ob 4 [.ref q, .int (nI n)]), (q, ia E 96 (nA F))] H locs := hw
            refine lv_aload_n hx hb dX5_addSpecimen_57 rfl (lv_at hl 0 rfl) ?_
            refine z_get cx hw 0 0 rfl rfl inlX5 (by decide) wd_15 rfl dX5_addSpecimen_58 ?_
            refine z_getN cx hw 4 1 rfl rfl inlX4 (by decide) (nf_X5_51 hN) rfl dX5_addSpecimen_61 ?_
            refine lv_istore (lv' := [(5, .int (nI n)), (0, .ref h0), (1, .int (nI d1)), (2, .int (nI d2)), (3, .int (nI w1)), (4, .int (nI w2))]) hx hb dX5_addSpecimen_64 hl (by decide) rfl (fun ls hl => ?_)
            refine lv_aload_n hx hb dX5_addSpecimen_66 rfl (lv_at hl 1 rfl) ?_
            refine z_get cx hw 0 0 rfl rfl inlX5 (by decide) wd_15 rfl dX5_addSpecimen_67 ?_
            refine lv_iload hx hb dX5_addSpecimen_70 (lv_at hl 0 rfl) ?_
            refine lv_iconst (v := nI 1) hx hb dX5_addSpecimen_72 (by decide) ?_
            refine z_iadd hx hb (n + 1) rfl dX5_addSpecimen_73 ?_
            refine z_putN cx hw 4 1 rfl rfl inlX4 tyX4_ok nmX4 (by decide) (nf_X5_51 hN) rfl rfl rfl (Nat.le_of_ble_eq_true rfl) dX5_addSpecimen_74 (fun H locs hw => ?_)
            have hw : ZW E A s [(h0, ob 5 [.ref hS, .ref hH, .ref hC, .ref hG, .ref hR]), (hH, ob 2 [.ref qc, .ref qn, .int (nI (incN sv)), .int (nI (nxtN nx))]), (qc, ia E 480 (nA (cpyN F G 0 (96 * nx) 96))), (qn, ia E 5 (nA (updN C nx n))), (hS, ob 4 [.ref q, .int (nI (n + 1))]), (q, ia E 96 (nA F))] H locs := hw
            refine lv_aload_n hx hb dX5_addSpecimen_77 rfl (lv_at hl 1 rfl) ?_
            refine z_get cx hw 0 0 rfl rfl inlX5 (by decide) wd_15 rfl dX5_addSpecimen_78 ?_
            refine lv_iload hx hb dX5_addSpecimen_81 (lv_at hl 0 rfl) ?_
            refine lv_iconst (v := nI 0) hx hb dX5_addSpecimen_83 (by decide) ?_
            refine lv_iload_n hx hb dX5_addSpecimen_84 rfl (lv_at hl 2 rfl) ?_
            refine z_rv0 (wr := [(h0, ob 5 [.ref hS, .ref hH, .ref hC, .ref hG, .ref hR]), (hH, ob 2 [.ref qc, .ref qn, .int (nI (incN sv)), .int (nI (nxtN nx))]), (qc, ia E 480 (nA (cpyN F G 0 (96 * nx) 96))), (qn, ia E 5 (nA (updN C nx n)))]) cx hw [4, 5] [0, 1, 2, 3] rfl rfl (by decide) (by decide) rfl rfl (z_runVN (As := [.int (nI n), .int (nI 0), .int (nI d1)]) (rest := []) cx hw rfl rfl [4, 5] rfl rfl (c_X4_putDie l E hS q F (n + 1) n 0 d1 (by omega) (by omega) H.size) mf_X4_putDie (nm_X5_59 hN) ⟨Nat.le_of_ble_eq_true rfl, Nat.le_of_ble_eq_true rfl⟩ hl (Nat.le_of_ble_eq_true rfl) dX5_addSpecimen_85 ⟨Nat.le_of_ble_eq_true rfl, Nat.le_of_ble_eq_true rfl⟩) (fun _ H locs hp hw => ?_)
            have hw : ZW E A s [(h0, ob 5 [.ref hS, .ref hH, .ref hC, .ref hG, .ref hR]), (hH, ob 2 [.ref qc, .ref qn, .int (nI (incN sv)), .int (nI (nxtN nx))]), (qc, ia E 480 (nA (cpyN F G 0 (96 * nx) 96))), (qn, ia E 5 (nA (updN C nx n))), (hS, ob 4 [.ref q, .int (nI (n + 1))]), (q, ia E 96 (nA (updN F (4 * n + 0) d1)))] H locs := hw
            refine lv_aload_n hx hb dX5_addSpecimen_88 rfl (lv_at hl 1 rfl) ?_
            refine z_get cx hw 0 0 rfl rfl inlX5 (by decide) wd_15 rfl dX5_addSpecimen_89 ?_
            refine lv_iload hx hb dX5_addSpecimen_92 (lv_at hl 0 rfl) ?_
            refine lv_iconst (v := nI 1) hx hb dX5_addSpecimen_94 (by decide) ?_
            refine lv_iload_n hx hb dX5_addSpecimen_95 rfl (lv_at hl 3 rfl) ?_
            refine z_rv0 (wr := [(h0, ob 5 [.ref hS, .ref hH, .ref hC, .ref hG, .ref hR]), (hH, ob 2 [.ref qc, .ref qn, .int (nI (incN sv)), .int (nI (nxtN nx))]), (qc, ia E 480 (nA (cpyN F G 0 (96 * nx) 96))), (qn, ia E 5 (nA (updN C nx n)))]) cx hw [4, 5] [0, 1, 2, 3] rfl rfl (by decide) (by decide) rfl rfl (z_runVN (As := [.int (nI n), .int (nI 1), .int (nI d2)]) (rest := []) cx hw rfl rfl [4, 5] rfl rfl (c_X4_putDie l E hS q (updN F (4 * n + 0) d1) (n + 1) n 1 d2 (by omega) (by omega) H.size) mf_X4_putDie (nm_X5_59 hN) ⟨Nat.le_of_ble_eq_true rfl, Nat.le_of_ble_eq_true rfl⟩ hl (Nat.le_of_ble_eq_true rfl) dX5_addSpecimen_96 ⟨Nat.le_of_ble_eq_true rfl, Nat.le_of_ble_eq_true rfl⟩) (fun _ H locs hp hw => ?_)
            have hw : ZW E A s [(h0, ob 5 [.ref hS, .ref hH, .ref hC, .ref hG, .ref hR]), (hH, ob 2 [.ref qc, .ref qn, .int (nI (incN sv)), .int (nI (nxtN nx))]), (qc, ia E 480 (nA (cpyN F G 0 (96 * nx) 96))), (qn, ia E 5 (nA (updN C nx n))), (hS, ob 4 [.ref q, .int (nI (n + 1))]), (q, ia E 96 (nA (updN (updN F (4 * n + 0) d1) (4 * n + 1) d2)))] H locs := hw
            refine lv_aload_n hx hb dX5_addSpecimen_99 rfl (lv_at hl 1 rfl) ?_
            refine z_get cx hw 0 0 rfl rfl inlX5 (by decide) wd_15 rfl dX5_addSpecimen_100 ?_
            refine lv_iload hx hb dX5_addSpecimen_103 (lv_at hl 0 rfl) ?_
            refine lv_iconst (v := nI 0) hx hb dX5_addSpecimen_105 (by decide) ?_
            refine lv_iload_n hx hb dX5_addSpecimen_106 rfl (lv_at hl 4 rfl) ?_
            refine z_rv0 (wr := [(h0, ob 5 [.ref hS, .ref hH, .ref hC, .ref hG, .ref hR]), (hH, ob 2 [.ref qc, .ref qn, .int (nI (incN sv)), .int (nI (nxtN nx))]), (qc, ia E 480 (nA (cpyN F G 0 (96 * nx) 96))), (qn, ia E 5 (nA (updN C nx n)))]) cx hw [4, 5] [0, 1, 2, 3] rfl rfl (by decide) (by decide) rfl rfl (z_runVN (As := [.int (nI n), .int (nI 0), .int (nI w1)]) (rest := []) cx hw rfl rfl [4, 5] rfl rfl (c_X4_putWear l E hS q (updN (updN F (4 * n + 0) d1) (4 * n + 1) d2) (n + 1) n 0 w1 (by omega) (by omega) H.size) mf_X4_putWear (nm_X5_63 hN) ⟨Nat.le_of_ble_eq_true rfl, Nat.le_of_ble_eq_true rfl⟩ hl (Nat.le_of_ble_eq_true rfl) dX5_addSpecimen_107 ⟨Nat.le_of_ble_eq_true rfl, Nat.le_of_ble_eq_true rfl⟩) (fun _ H locs hp hw => ?_)
            have hw : ZW E A s [(h0, ob 5 [.ref hS, .ref hH, .ref hC, .ref hG, .ref hR]), (hH, ob 2 [.ref qc, .ref qn, .int (nI (incN sv)), .int (nI (nxtN nx))]), (qc, ia E 480 (nA (cpyN F G 0 (96 * nx) 96))), (qn, ia E 5 (nA (updN C nx n))), (hS, ob 4 [.ref q, .int (nI (n + 1))]), (q, ia E 96 (nA (updN (updN (updN F (4 * n + 0) d1) (4 * n + 1) d2) (4 * n + 2 + 0) w1)))] H locs := hw
            refine lv_aload_n hx hb dX5_addSpecimen_110 rfl (lv_at hl 1 rfl) ?_
            refine z_get cx hw 0 0 rfl rfl inlX5 (by decide) wd_15 rfl dX5_addSpecimen_111 ?_
            refine lv_iload hx hb dX5_addSpecimen_114 (lv_at hl 0 rfl) ?_
            refine lv_iconst (v := nI 1) hx hb dX5_addSpecimen_116 (by decide) ?_
            refine lv_iload hx hb dX5_addSpecimen_117 (lv_at hl 5 rfl) ?_
            refine z_rv0 (wr := [(h0, ob 5 [.ref hS, .ref hH, .ref hC, .ref hG, .ref hR]), (hH, ob 2 [.ref qc, .ref qn, .int (nI (incN sv)), .int (nI (nxtN nx))]), (qc, ia E 480 (nA (cpyN F G 0 (96 * nx) 96))), (qn, ia E 5 (nA (updN C nx n)))]) cx hw [4, 5] [0, 1, 2, 3] rfl rfl (by decide) (by decide) rfl rfl (z_runVN (As := [.int (nI n), .int (nI 1), .int (nI w2)]) (rest := []) cx hw rfl rfl [4, 5] rfl rfl (c_X4_putWear l E hS q (updN (updN (updN F (4 * n + 0) d1) (4 * n + 1) d2) (4 * n + 2 + 0) w1) (n + 1) n 1 w2 (by omega) (by omega) H.size) mf_X4_putWear (nm_X5_63 hN) ⟨Nat.le_of_ble_eq_true rfl, Nat.le_of_ble_eq_true rfl⟩ hl (Nat.le_of_ble_eq_true rfl) dX5_addSpecimen_119 ⟨Nat.le_of_ble_eq_true rfl, Nat.le_of_ble_eq_true rfl⟩) (fun _ H locs hp hw => ?_)
            have hw : ZW E A s [(h0, ob 5 [.ref hS, .ref hH, .ref hC, .ref hG, .ref hR]), (hH, ob 2 [.ref qc, .ref qn, .int (nI (incN sv)), .int (nI (nxtN nx))]), (qc, ia E 480 (nA (cpyN F G 0 (96 * nx) 96))), (qn, ia E 5 (nA (updN C nx n))), (hS, ob 4 [.ref q, .int (nI (n + 1))]), (q, ia E 96 (nA (updN (updN (updN (updN F (4 * n + 0) d1) (4 * n + 1) d2) (4 * n + 2 + 0) w1) (4 * n + 2 + 1) w2)))] H locs := hw
            refine lv_iload hx hb dX5_addSpecimen_122 (lv_at hl 0 rfl) ?_
            have ho_ : okA (nI d1) (nI d2) (nI w1) (nI w2) = true := by simp only [okA, c_4, c_11, c_18, c_26, Bool.and_self]
            have hs_ : addS (F, n, G, C, sv, nx) (nI d1) (nI d2) (nI w1) (nI w2) = sav (F, n, G, C, sv, nx) (pushF F n d1 d2 w1 w2) (n + 1) := by rw [addS, if_pos ⟨ho_, c_40⟩, cl_nI hd1 (by decide), cl_nI hd2 (by decide), cl_nI hw1 (by decide), cl_nI hw2 (by decide)]
            have e_r124_0 : (n + 1) = ((addS (F, n, G, C, sv, nx) (nI d1) (nI d2) (nI w1) (nI w2)).2.1) := by rw [hs_]; rfl
            have e_r124_1 : (updN (updN (updN (updN F (4 * n + 0) d1) (4 * n + 1) d2) (4 * n + 2 + 0) w1) (4 * n + 2 + 1) w2) = ((addS (F, n, G, C, sv, nx) (nI d1) (nI d2) (nI w1) (nI w2)).1) := by rw [hs_]; rfl
            have e_r124_2 : (incN sv) = ((addS (F, n, G, C, sv, nx) (nI d1) (nI d2) (nI w1) (nI w2)).2.2.2.2.1) := by rw [hs_]; rfl
            have e_r124_3 : (nxtN nx) = ((addS (F, n, G, C, sv, nx) (nI d1) (nI d2) (nI w1) (nI w2)).2.2.2.2.2) := by rw [hs_]; rfl
            have e_r124_4 : (cpyN F G 0 (96 * nx) 96) = ((addS (F, n, G, C, sv, nx) (nI d1) (nI d2) (nI w1) (nI w2)).2.2.1) := by rw [hs_]; rfl
            have e_r124_5 : (updN C nx n) = ((addS (F, n, G, C, sv, nx) (nI d1) (nI d2) (nI w1) (nI w2)).2.2.2.1) := by rw [hs_]; rfl
            exact ret (nI n) () 124 ls H locs dX5_addSpecimen_124 (by simp only [addR, ho_, if_true, if_pos c_40]) ((hw.perm [0, 4, 5, 1, 2, 3] rfl (by decide)).cast (zc rfl (zc (congrArg (fun z => ((hS, ob 4 [.ref q, .int (nI z)]) : Nat × va_E)) e_r124_0) (zc (congrArg (fun z => ((q, ia E 96 (nA z)) : Nat × va_E)) e_r124_1) (zc ((congrArg (fun z => ((hH, ob 2 [.ref qc, .ref qn, .int (nI z), .int (nI (nxtN nx))]) : Nat × va_E)) e_r124_2).trans (congrArg (fun z => ((hH, ob 2 [.ref qc, .ref qn, .int (nI ((addS (F, n, G, C, sv, nx) (nI d1) (nI d2) (nI w1) (nI w2)).2.2.2.2.1)), .int (nI z)]) : Nat × va_E)) e_r124_3)) (zc (congrArg (fun z => ((qc, ia E 480 (nA z)) : Nat × va_E)) e_r124_4) (zc (congrArg (fun z => ((qn, ia E 5 (nA z)) : Nat × va_E)) e_r124_5) rfl)))))))
          · refine lv_bipush (v := (-2)) hx hb dX5_addSpecimen_43 (by decide) ?_
            have hs_ : addS (F, n, G, C, sv, nx) (nI d1) (nI d2) (nI w1) (nI w2) = (F, n, G, C, sv, nx) := if_neg (fun z => by have := z.2; dsimp only at this; omega)
            have e_r45_0 : n = ((addS (F, n, G, C, sv, nx) (nI d1) (nI d2) (nI w1) (nI w2)).2.1) := by rw [hs_]
            have e_r45_1 : F = ((addS (F, n, G, C, sv, nx) (nI d1) (nI d2) (nI w1) (nI w2)).1) := by rw [hs_]
            have e_r45_2 : sv = ((addS (F, n, G, C, sv, nx) (nI d1) (nI d2) (nI w1) (nI w2)).2.2.2.2.1) := by rw [hs_]
            have e_r45_3 : nx = ((addS (F, n, G, C, sv, nx) (nI d1) (nI d2) (nI w1) (nI w2)).2.2.2.2.2) := by rw [hs_]
            have e_r45_4 : G = ((addS (F, n, G, C, sv, nx) (nI d1) (nI d2) (nI w1) (nI w2)).2.2.1) := by rw [hs_]
            have e_r45_5 : C = ((addS (F, n, G, C, sv, nx) (nI d1) (nI d2) (nI w1) (nI w2)).2.2.2.1) := by rw [hs_]
            exact ret ((-2)) () 45 ls H locs dX5_addSpecimen_45 (by simp only [addR, okA, c_4, c_11, c_18, c_26, Bool.and_self, if_true]; rw [if_neg (by omega)]) ((hw).cast (zc rfl (zc (congrArg (fun z => ((hS, ob 4 [.ref q, .int (nI z)]) : Nat × va_E)) e_r45_0) (zc (congrArg (fun z => ((q, ia E 96 (nA z)) : Nat × va_E)) e_r45_1) (zc ((congrArg (fun z => ((hH, ob 2 [.ref qc, .ref qn, .int (nI z), .int (nI nx)]) : Nat × va_E)) e_r45_2).trans (congrArg (fun z => ((hH, ob 2 [.ref qc, .ref qn, .int (nI ((addS (F, n, G, C, sv, nx) (nI d1) (nI d2) (nI w1) (nI w2)).2.2.2.2.1)), .int (nI z)]) : Nat × va_E)) e_r45_3)) (zc (congrArg (fun z => ((qc, ia E 480 (nA z)) : Nat × va_E)) e_r45_4) (zc (congrArg (fun z => ((qn, ia E 5 (nA z)) : Nat × va_E)) e_r45_5) rfl)))))))
        · refine lv_iconst (v := (-1)) hx hb dX5_addSpecimen_29 (by decide) ?_
          have ho_ : okA (nI d1) (nI d2) (nI w1) (x4) = false := by simp [okA, c_26]
          have hs_ : addS (F, n, G, C, sv, nx) (nI d1) (nI d2) (nI w1) (x4) = (F, n, G, C, sv, nx) := if_neg (fun z => by rw [ho_] at z; exact absurd z.1 (by decide))
          have e_r30_0 : n = ((addS (F, n, G, C, sv, nx) (nI d1) (nI d2) (nI w1) x4).2.1) := by rw [hs_]
          have e_r30_1 : F = ((addS (F, n, G, C, sv, nx) (nI d1) (nI d2) (nI w1) x4).1) := by rw [hs_]
          have e_r30_2 : sv = ((addS (F, n, G, C, sv, nx) (nI d1) (nI d2) (nI w1) x4).2.2.2.2.1) := by rw [hs_]
          have e_r30_3 : nx = ((addS (F, n, G, C, sv, nx) (nI d1) (nI d2) (nI w1) x4).2.2.2.2.2) := by rw [hs_]
          have e_r30_4 : G = ((addS (F, n, G, C, sv, nx) (nI d1) (nI d2) (nI w1) x4).2.2.1) := by rw [hs_]
          have e_r30_5 : C = ((addS (F, n, G, C, sv, nx) (nI d1) (nI d2) (nI w1) x4).2.2.2.1) := by rw [hs_]
          exact ret ((-1)) () 30 ls H locs dX5_addSpecimen_30 (by simp only [addR, ho_]; rfl) ((hw).cast (zc rfl (zc (congrArg (fun z => ((hS, ob 4 [.ref q, .int (nI z)]) : Nat × va_E)) e_r30_0) (zc (congrArg (fun z => ((q, ia E 96 (nA z)) : Nat × va_E)) e_r30_1) (zc ((congrArg (fun z => ((hH, ob 2 [.ref qc, .ref qn, .int (nI z), .int (nI nx)]) : Nat × va_E)) e_r30_2).trans (congrArg (fun z => ((hH, ob 2 [.ref qc, .ref qn, .int (nI ((addS (F, n, G, C, sv, nx) (nI d1) (nI d2) (nI w1) x4).2.2.2.2.1)), .int (nI z)]) : Nat × va_E)) e_r30_3)) (zc (congrArg (fun z => ((qc, ia E 480 (nA z)) : Nat × va_E)) e_r30_4) (zc (congrArg (fun z => ((qn, ia E 5 (nA z)) : Nat × va_E)) e_r30_5) rfl)))))))

def rmX5_removeSpecimen : Room := { frames := 2, cells := 0, slots := 0, locals := 83 }
set_option maxHeartbeats 4000000 in
set_option maxRecDepth 100000 in
theorem c_X5_removeSpecimen (l : Launch) (E : ZE) (h0 hS hH hC hG hR : Nat) (q : Nat) (F : Nat → Nat) (n : Nat) (qc qn : Nat) (G C : Nat → Nat) (sv nx : Nat) (x : Int32) (hn : n ≤ 24) (hF : ∀ j, F j < 10) (hnx : nx < 5) (hsv : sv ≤ 5) : ZMi l yX5_removeSpecimen cX5_removeSpecimen 2 (some .int) rmX5_removeSpecimen E [.ref h0, .int x] [(h0, ob 5 [.ref hS, .ref hH, .ref hC, .ref hG, .ref hR]), (hS, ob 4 [.ref q, .int (nI n)]), (q, ia E 96 (nA F)), (hH, ob 2 [.ref qc, .ref qn, .int (nI sv), .int (nI nx)]), (qc, ia E 480 (nA G)), (qn, ia E 5 (nA C))] (S := Unit) (fun r _ => r = rmvR n x) (fun _ => [(h0, ob 5 [.ref hS, .ref hH, .ref hC, .ref hG, .ref hR]), (hS, ob 4 [.ref q, .int (nI ((rmvS (F, n, G, C, sv, nx) x).2.1))]), (q, ia E 96 (nA ((rmvS (F, n, G, C, sv, nx) x).1))), (hH, ob 2 [.ref qc, .ref qn, .int (nI ((rmvS (F, n, G, C, sv, nx) x).2.2.2.2.1)), .int (nI ((rmvS (F, n, G, C, sv, nx) x).2.2.2.2.2))]), (qc, ia E 480 (nA ((rmvS (F, n, G, C, sv, nx) x).2.2.1))), (qn, ia E 5 (nA ((rmvS (F, n, G, C, sv, nx) x).2.2.2.1)))]) := by
  refine z_mi (by decide) (Nat.le_of_ble_eq_true rfl) ?_
  intro p e s m args below meth c A Q ls cx hin hw hl ret
  obtain ⟨hx, hb, hml, hown, hts, hK, hN, hA, hlk⟩ := id cx
  have hl : lv_has ls 2 [(0, .ref h0), (1, .int x)] := hl
  refine lv_aload_n hx hb dX5_removeSpecimen_0 rfl (lv_at hl 0 rfl) ?_
  refine z_get cx hw 0 0 rfl rfl inlX5 (by decide) wd_15 rfl dX5_removeSpecimen_1 ?_
  refine lv_iload_n hx hb dX5_removeSpecimen_4 rfl (lv_at hl 1 rfl) ?_
  refine z_ri0 (wr := [(h0, ob 5 [.ref hS, .ref hH, .ref hC, .ref hG, .ref hR]), (hH, ob 2 [.ref qc, .ref qn, .int (nI sv), .int (nI nx)]), (qc, ia E 480 (nA G)), (qn, ia E 5 (nA C))]) cx hw [1, 2] [0, 3, 4, 5] rfl rfl (by decide) (by decide) rfl rfl (z_runVN (As := [.int x]) (rest := []) cx hw rfl rfl [1, 2] rfl rfl (c_X4_has l E hS q F n x (by omega) s.heap.size) mf_X4_has (nm_X5_66 hN) ⟨Nat.le_of_ble_eq_true rfl, Nat.le_of_ble_eq_true rfl⟩ hl (Nat.le_of_ble_eq_true rfl) dX5_removeSpecimen_5 ⟨Nat.le_of_ble_eq_true rfl, Nat.le_of_ble_eq_true rfl⟩) (fun r _ H locs hp hw => ?_)
  have hr_5 := hp
  have hr_5 : r = bI (inR x n) := hr_5
  subst hr_5
  have hw : ZW E A s [(h0, ob 5 [.ref hS, .ref hH, .ref hC, .ref hG, .ref hR]), (hH, ob 2 [.ref qc, .ref qn, .int (nI sv), .int (nI nx)]), (qc, ia E 480 (nA G)), (qn, ia E 5 (nA C)), (hS, ob 4 [.ref q, .int (nI n)]), (q, ia E 96 (nA F))] H locs := hw
  refine z_ifb_ne hx hb 13 dX5_removeSpecimen_8 (by decide) (fun c_8 => ?_) (fun c_8 => ?_)
  · obtain ⟨k, hk, rfl⟩ := inR_get c_8 (by omega)
    refine lv_aload_n hx hb dX5_removeSpecimen_13 rfl (lv_at hl 0 rfl) ?_
    refine z_get cx hw 0 1 rfl rfl inlX5 (by decide) wd_19 rfl dX5_removeSpecimen_14 ?_
    refine lv_aload_n hx hb dX5_removeSpecimen_17 rfl (lv_at hl 0 rfl) ?_
    refine z_get cx hw 0 0 rfl rfl inlX5 (by decide) wd_15 rfl dX5_removeSpecimen_18 ?_
    refine z_rv0 (wr := [(h0, ob 5 [.ref hS, .ref hH, .ref hC, .ref hG, .ref hR])]) cx hw [1, 2, 3, 4, 5] [0] rfl rfl (by decide) (by decide) rfl rfl (z_runVN (As := [.ref hS]) (rest := []) cx hw rfl rfl [1, 2, 3, 4, 5] rfl rfl (c_X2_save l E hH qc qn G C sv nx hS q F n (by omega) (by omega) H.size) mf_X2_save (nm_X5_55 hN) ⟨Nat.le_of_ble_eq_true rfl, Nat.le_of_ble_eq_true rfl⟩ hl (Nat.le_of_ble_eq_true rfl) dX5_removeSpecimen_21 ⟨Nat.le_of_ble_eq_true rfl, Nat.le_of_ble_eq_true rfl⟩) (fun _ H locs hp hw => ?_)
    have hw : ZW E A s [(h0, ob 5 [.ref hS, .ref hH, .ref hC, .ref hG, .ref hR]), (hH, ob 2 [.ref qc, .ref qn, .int (nI (incN sv)), .int (nI (nxtN nx))]), (qc, ia E 480 (nA (cpyN F G 0 (96 * nx) 96))), (qn, ia E 5 (nA (updN C nx n))), (hS, ob 4 [.ref q, .int (nI n)]), (q, ia E 96 (nA F))] H locs := hw
    refine lv_aload_n hx hb dX5_removeSpecimen_24 rfl (lv_at hl 0 rfl) ?_
    refine z_get cx hw 0 0 rfl rfl inlX5 (by decide) wd_15 rfl dX5_removeSpecimen_25 ?_
    refine lv_iload_n hx hb dX5_removeSpecimen_28 rfl (lv_at hl 1 rfl) ?_
    refine z_rv0 (wr := [(h0, ob 5 [.ref hS, .ref hH, .ref hC, .ref hG, .ref hR]), (hH, ob 2 [.ref qc, .ref qn, .int (nI (incN sv)), .int (nI (nxtN nx))]), (qc, ia E 480 (nA (cpyN F G 0 (96 * nx) 96))), (qn, ia E 5 (nA (updN C nx n)))]) cx hw [4, 5] [0, 1, 2, 3] rfl rfl (by decide) (by decide) rfl rfl (z_runVN (As := [.int (nI k)]) (rest := []) cx hw rfl rfl [4, 5] rfl rfl (c_X4_close l E hS q F n k (by omega) (by omega) H.size) mf_X4_close (nm_X5_69 hN) ⟨Nat.le_of_ble_eq_true rfl, Nat.le_of_ble_eq_true rfl⟩ hl (Nat.le_of_ble_eq_true rfl) dX5_removeSpecimen_29 ⟨Nat.le_of_ble_eq_true rfl, Nat.le_of_ble_eq_true rfl⟩) (fun _ H locs hp hw => ?_)
    have hw : ZW E A s [(h0, ob 5 [.ref hS, .ref hH, .ref hC, .ref hG, .ref hR]), (hH, ob 2 [.ref qc, .ref qn, .int (nI (incN sv)), .int (nI (nxtN nx))]), (qc, ia E 480 (nA (cpyN F G 0 (96 * nx) 96))), (qn, ia E 5 (nA (updN C nx n))), (hS, ob 4 [.ref q, .int (nI (n - 1))]), (q, ia E 96 (nA (rmv F k n)))] H locs := hw
    refine lv_aload_n hx hb dX5_removeSpecimen_32 rfl (lv_at hl 0 rfl) ?_
    refine z_get cx hw 0 0 rfl rfl inlX5 (by decide) wd_15 rfl dX5_removeSpecimen_33 ?_
    refine z_getN cx hw 4 1 rfl rfl inlX4 (by decide) (nf_X5_51 hN) rfl dX5_removeSpecimen_36 ?_
    have hs_ : rmvS (F, n, G, C, sv, nx) (nI k) = sav (F, n, G, C, sv, nx) (rmv F k n) (n - 1) := by rw [rmvS, if_pos c_8, cl_nI hk (by omega)]
    have e_r39_0 : (n - 1) = ((rmvS (F, n, G, C, sv, nx) (nI k)).2.1) := by rw [hs_]; rfl
    have e_r39_1 : (rmv F k n) = ((rmvS (F, n, G, C, sv, nx) (nI k)).1) := by rw [hs_]; rfl
    have e_r39_2 : (incN sv) = ((rmvS (F, n, G, C, sv, nx) (nI k)).2.2.2.2.1) := by rw [hs_]; rfl
    have e_r39_3 : (nxtN nx) = ((rmvS (F, n, G, C, sv, nx) (nI k)).2.2.2.2.2) := by rw [hs_]; rfl
    have e_r39_4 : (cpyN F G 0 (96 * nx) 96) = ((rmvS (F, n, G, C, sv, nx) (nI k)).2.2.1) := by rw [hs_]; rfl
    have e_r39_5 : (updN C nx n) = ((rmvS (F, n, G, C, sv, nx) (nI k)).2.2.2.1) := by rw [hs_]; rfl
    exact ret (nI (n - 1)) () 39 ls H locs dX5_removeSpecimen_39 (by simp only [rmvR, c_8, if_true]) ((hw.perm [0, 4, 5, 1, 2, 3] rfl (by decide)).cast (zc rfl (zc (congrArg (fun z => ((hS, ob 4 [.ref q, .int (nI z)]) : Nat × va_E)) e_r39_0) (zc (congrArg (fun z => ((q, ia E 96 (nA z)) : Nat × va_E)) e_r39_1) (zc ((congrArg (fun z => ((hH, ob 2 [.ref qc, .ref qn, .int (nI z), .int (nI (nxtN nx))]) : Nat × va_E)) e_r39_2).trans (congrArg (fun z => ((hH, ob 2 [.ref qc, .ref qn, .int (nI ((rmvS (F, n, G, C, sv, nx) (nI k)).2.2.2.2.1)), .int (nI z)]) : Nat × va_E)) e_r39_3)) (zc (congrArg (fun z => ((qc, ia E 480 (nA z)) : Nat × va_E)) e_r39_4) (zc (congrArg (fun z => ((qn, ia E 5 (nA z)) : Nat × va_E)) e_r39_5) rfl)))))))
  · refine lv_iconst (v := (-1)) hx hb dX5_removeSpecimen_11 (by decide) ?_
    have hs_ : rmvS (F, n, G, C, sv, nx) x = (F, n, G, C, sv, nx) := if_neg (fun z => by rw [c_8] at z; exact absurd z (by decide))
    have e_r12_0 : n = ((rmvS (F, n, G, C, sv, nx) x).2.1) := by rw [hs_]
    have e_r12_1 : F = ((rmvS (F, n, G, C, sv, nx) x).1) := by rw [hs_]
    have e_r12_2 : sv = ((rmvS (F, n, G, C, sv, nx) x).2.2.2.2.1) := by rw [hs_]
    have e_r12_3 : nx = ((rmvS (F, n, G, C, sv, nx) x).2.2.2.2.2) := by rw [hs_]
    have e_r12_4 : G = ((rmvS (F, n, G, C, sv, nx) x).2.2.1) := by rw [hs_]
    have e_r12_5 : C = ((rmvS (F, n, G, C, sv, nx) x).2.2.2.1) := by rw [hs_]
    exact ret ((-1)) () 12 ls H locs dX5_removeSpecimen_12 (by simp only [rmvR, c_8]; rfl) ((hw.perm [0, 4, 5, 1, 2, 3] rfl (by decide)).cast (zc rfl (zc (congrArg (fun z => ((hS, ob 4 [.ref q, .int (nI z)]) : Nat × va_E)) e_r12_0) (zc (congrArg (fun z => ((q, ia E 96 (nA z)) : Nat × va_E)) e_r12_1) (zc ((congrArg (fun z => ((hH, ob 2 [.ref qc, .ref qn, .int (nI z), .int (nI nx)]) : Nat × va_E)) e_r12_2).trans (congrArg (fun z => ((hH, ob 2 [.ref qc, .ref qn, .int (nI ((rmvS (F, n, G, C, sv, nx) x).2.2.2.2.1)), .int (nI z)]) : Nat × va_E)) e_r12_3)) (zc (congrArg (fun z => ((qc, ia E 480 (nA z)) : Nat × va_E)) e_r12_4) (zc (congrArg (fun z => ((qn, ia E 5 (nA z)) : Nat × va_E)) e_r12_5) rfl)))))))

def rmX5_setWear : Room := { frames := 2, cells := 0, slots := 0, locals := 81 }
set_option maxHeartbeats 4000000 in
set_option maxRecDepth 100000 in
theorem c_X5_setWear (l : Launch) (E : ZE) (h0 hS hH hC hG hR : Nat) (q : Nat) (F : Nat → Nat) (n : Nat) (qc qn : Nat) (G C : Nat → Nat) (sv nx : Nat) (x sd w : Int32) (hn : n ≤ 24) (hF : ∀ j, F j < 10) (hnx : nx < 5) (hsv : sv ≤ 5) : ZMi l yX5_setWear cX5_setWear 5 (some .int) rmX5_setWear E [.ref h0, .int x, .int sd, .int w] [(h0, ob 5 [.ref hS, .ref hH, .ref hC, .ref hG, .ref hR]), (hS, ob 4 [.ref q, .int (nI n)]), (q, ia E 96 (nA F)), (hH, ob 2 [.ref qc, .ref qn, .int (nI sv), .int (nI nx)]), (qc, ia E 480 (nA G)), (qn, ia E 5 (nA C))] (S := Unit) (fun r _ => r = setR F n x sd w) (fun _ => [(h0, ob 5 [.ref hS, .ref hH, .ref hC, .ref hG, .ref hR]), (hS, ob 4 [.ref q, .int (nI ((setS (F, n, G, C, sv, nx) x sd w).2.1))]), (q, ia E 96 (nA ((setS (F, n, G, C, sv, nx) x sd w).1))), (hH, ob 2 [.ref qc, .ref qn, .int (nI ((setS (F, n, G, C, sv, nx) x sd w).2.2.2.2.1)), .int (nI ((setS (F, n, G, C, sv, nx) x sd w).2.2.2.2.2))]), (qc, ia E 480 (nA ((setS (F, n, G, C, sv, nx) x sd w).2.2.1))), (qn, ia E 5 (nA ((setS (F, n, G, C, sv, nx) x sd w).2.2.2.1)))]) := by
  refine z_mi (by decide) (Nat.le_of_ble_eq_true rfl) ?_
  intro p e s m args below meth c A Q ls cx hin hw hl ret
  obtain ⟨hx, hb, hml, hown, hts, hK, hN, hA, hlk⟩ := id cx
  have hl : lv_has ls 5 [(0, .ref h0), (1, .int x), (2, .int sd), (3, .int w)] := hl
  refine lv_aload_n hx hb dX5_setWear_0 rfl (lv_at hl 0 rfl) ?_
  refine z_get cx hw 0 0 rfl rfl inlX5 (by decide) wd_15 rfl dX5_setWear_1 ?_
  refine lv_iload_n hx hb dX5_setWear_4 rfl (lv_at hl 1 rfl) ?_
  refine z_ri0 (wr := [(h0, ob 5 [.ref hS, .ref hH, .ref hC, .ref hG, .ref hR]), (hH, ob 2 [.ref qc, .ref qn, .int (nI sv), .int (nI nx)]), (qc, ia E 480 (nA G)), (qn, ia E 5 (nA C))]) cx hw [1, 2] [0, 3, 4, 5] rfl rfl (by decide) (by decide) rfl rfl (z_runVN (As := [.int x]) (rest := []) cx hw rfl rfl [1, 2] rfl rfl (c_X4_has l E hS q F n x (by omega) s.heap.size) mf_X4_has (nm_X5_66 hN) ⟨Nat.le_of_ble_eq_true rfl, Nat.le_of_ble_eq_true rfl⟩ hl (Nat.le_of_ble_eq_true rfl) dX5_setWear_5 ⟨Nat.le_of_ble_eq_true rfl, Nat.le_of_ble_eq_true rfl⟩) (fun r _ H locs hp hw => ?_)
  have hr_5 := hp
  have hr_5 : r = bI (inR x n) := hr_5
  subst hr_5
  have hw : ZW E A s [(h0, ob 5 [.ref hS, .ref hH, .ref hC, .ref hG, .ref hR]), (hH, ob 2 [.ref qc, .ref qn, .int (nI sv), .int (nI nx)]), (qc, ia E 480 (nA G)), (qn, ia E 5 (nA C)), (hS, ob 4 [.ref q, .int (nI n)]), (q, ia E 96 (nA F))] H locs := hw
  refine z_ifb_eq hx hb 25 dX5_setWear_8 (by decide) (fun c_8 => ?_) (fun c_8 => ?_)
  · refine lv_iconst (v := (-1)) hx hb dX5_setWear_25 (by decide) ?_
    have ho_ : okW n (x) (sd) w = false := by simp [okW, c_8]
    have hs_ : setS (F, n, G, C, sv, nx) (x) (sd) w = (F, n, G, C, sv, nx) := if_neg (fun z => by dsimp only at z; rw [ho_] at z; exact absurd z (by decide))
    have e_r26_0 : n = ((setS (F, n, G, C, sv, nx) x sd w).2.1) := by rw [hs_]
    have e_r26_1 : F = ((setS (F, n, G, C, sv, nx) x sd w).1) := by rw [hs_]
    have e_r26_2 : sv = ((setS (F, n, G, C, sv, nx) x sd w).2.2.2.2.1) := by rw [hs_]
    have e_r26_3 : nx = ((setS (F, n, G, C, sv, nx) x sd w).2.2.2.2.2) := by rw [hs_]
    have e_r26_4 : G = ((setS (F, n, G, C, sv, nx) x sd w).2.2.1) := by rw [hs_]
    have e_r26_5 : C = ((setS (F, n, G, C, sv, nx) x sd w).2.2.2.1) := by rw [hs_]
    exact ret ((-1)) () 26 ls H locs dX5_setWear_26 (by simp only [setR, ho_]; rfl) ((hw.perm [0, 4, 5, 1, 2, 3] rfl (by decide)).cast (zc rfl (zc (congrArg (fun z => ((hS, ob 4 [.ref q, .int (nI z)]) : Nat × va_E)) e_r26_0) (zc (congrArg (fun z => ((q, ia E 96 (nA z)) : Nat × va_E)) e_r26_1) (zc ((congrArg (fun z => ((hH, ob 2 [.ref qc, .ref qn, .int (nI z), .int (nI nx)]) : Nat × va_E)) e_r26_2).trans (congrArg (fun z => ((hH, ob 2 [.ref qc, .ref qn, .int (nI ((setS (F, n, G, C, sv, nx) x sd w).2.2.2.2.1)), .int (nI z)]) : Nat × va_E)) e_r26_3)) (zc (congrArg (fun z => ((qc, ia E 480 (nA z)) : Nat × va_E)) e_r26_4) (zc (congrArg (fun z => ((qn, ia E 5 (nA z)) : Nat × va_E)) e_r26_5) rfl)))))))
  · obtain ⟨k, hk, rfl⟩ := inR_get c_8 (by omega)
    refine lv_iload_n hx hb dX5_setWear_11 rfl (lv_at hl 2 rfl) ?_
    refine z_ri0 (wr := [(h0, ob 5 [.ref hS, .ref hH, .ref hC, .ref hG, .ref hR]), (hH, ob 2 [.ref qc, .ref qn, .int (nI sv), .int (nI nx)]), (qc, ia E 480 (nA G)), (qn, ia E 5 (nA C)), (hS, ob 4 [.ref q, .int (nI n)]), (q, ia E 96 (nA F))]) cx hw [] [0, 1, 2, 3, 4, 5] rfl rfl (by decide) (by decide) rfl rfl (z_runS (As := [.int sd]) (rest := []) cx hw [] rfl rfl (c_X5_isSide l E sd  H.size) mf_X5_isSide wd_139 ⟨Nat.le_of_ble_eq_true rfl, Nat.le_of_ble_eq_true rfl⟩ hl (Nat.le_of_ble_eq_true rfl) dX5_setWear_12 ⟨Nat.le_of_ble_eq_true rfl, Nat.le_of_ble_eq_true rfl⟩) (fun r _ H locs hp hw => ?_)
    have hr_12 := hp
    have hr_12 : r = bI (inR sd 2) := hr_12
    subst hr_12
    have hw : ZW E A s [(h0, ob 5 [.ref hS, .ref hH, .ref hC, .ref hG, .ref hR]), (hH, ob 2 [.ref qc, .ref qn, .int (nI sv), .int (nI nx)]), (qc, ia E 480 (nA G)), (qn, ia E 5 (nA C)), (hS, ob 4 [.ref q, .int (nI n)]), (q, ia E 96 (nA F))] H locs := hw
    refine z_ifb_eq hx hb 25 dX5_setWear_15 (by decide) (fun c_15 => ?_) (fun c_15 => ?_)
    · refine lv_iconst (v := (-1)) hx hb dX5_setWear_25 (by decide) ?_
      have ho_ : okW n (nI k) (sd) w = false := by simp [okW, c_15]
      have hs_ : setS (F, n, G, C, sv, nx) (nI k) (sd) w = (F, n, G, C, sv, nx) := if_neg (fun z => by dsimp only at z; rw [ho_] at z; exact absurd z (by decide))
      have e_r26_0 : n = ((setS (F, n, G, C, sv, nx) (nI k) sd w).2.1) := by rw [hs_]
      have e_r26_1 : F = ((setS (F, n, G, C, sv, nx) (nI k) sd w).1) := by rw [hs_]
      have e_r26_2 : sv = ((setS (F, n, G, C, sv, nx) (nI k) sd w).2.2.2.2.1) := by rw [hs_]
      have e_r26_3 : nx = ((setS (F, n, G, C, sv, nx) (nI k) sd w).2.2.2.2.2) := by rw [hs_]
      have e_r26_4 : G = ((setS (F, n, G, C, sv, nx) (nI k) sd w).2.2.1) := by rw [hs_]
      have e_r26_5 : C = ((setS (F, n, G, C, sv, nx) (nI k) sd w).2.2.2.1) := by rw [hs_]
      exact ret ((-1)) () 26 ls H locs dX5_setWear_26 (by simp only [setR, ho_]; rfl) ((hw.perm [0, 4, 5, 1, 2, 3] rfl (by decide)).cast (zc rfl (zc (congrArg (fun z => ((hS, ob 4 [.ref q, .int (nI z)]) : Nat × va_E)) e_r26_0) (zc (congrArg (fun z => ((q, ia E 96 (nA z)) : Nat × va_E)) e_r26_1) (zc ((congrArg (fun z => ((hH, ob 2 [.ref qc, .ref qn, .int (nI z), .int (nI nx)]) : Nat × va_E)) e_r26_2).trans (congrArg (fun z => ((hH, ob 2 [.ref qc, .ref qn, .int (nI ((setS (F, n, G, C, sv, nx) (nI k) sd w).2.2.2.2.1)), .int (nI z)]) : Nat × va_E)) e_r26_3)) (zc (congrArg (fun z => ((qc, ia E 480 (nA z)) : Nat × va_E)) e_r26_4) (zc (congrArg (fun z => ((qn, ia E 5 (nA z)) : Nat × va_E)) e_r26_5) rfl)))))))
    · obtain ⟨t, ht, rfl⟩ := inR_get c_15 (by omega)
      refine lv_iload_n hx hb dX5_setWear_18 rfl (lv_at hl 3 rfl) ?_
      refine z_ri0 (wr := [(h0, ob 5 [.ref hS, .ref hH, .ref hC, .ref hG, .ref hR]), (hH, ob 2 [.ref qc, .ref qn, .int (nI sv), .int (nI nx)]), (qc, ia E 480 (nA G)), (qn, ia E 5 (nA C)), (hS, ob 4 [.ref q, .int (nI n)]), (q, ia E 96 (nA F))]) cx hw [] [0, 1, 2, 3, 4, 5] rfl rfl (by decide) (by decide) rfl rfl (z_runS (As := [.int w]) (rest := []) cx hw [] rfl rfl (c_X5_isWear l E w  H.size) mf_X5_isWear wd_88 ⟨Nat.le_of_ble_eq_true rfl, Nat.le_of_ble_eq_true rfl⟩ hl (Nat.le_of_ble_eq_true rfl) dX5_setWear_19 ⟨Nat.le_of_ble_eq_true rfl, Nat.le_of_ble_eq_true rfl⟩) (fun r _ H locs hp hw => ?_)
      have hr_19 := hp
      have hr_19 : r = bI (inR w 6) := hr_19
      subst hr_19
      have hw : ZW E A s [(h0, ob 5 [.ref hS, .ref hH, .ref hC, .ref hG, .ref hR]), (hH, ob 2 [.ref qc, .ref qn, .int (nI sv), .int (nI nx)]), (qc, ia E 480 (nA G)), (qn, ia E 5 (nA C)), (hS, ob 4 [.ref q, .int (nI n)]), (q, ia E 96 (nA F))] H locs := hw
      refine z_ifb_ne hx hb 27 dX5_setWear_22 (by decide) (fun c_22 => ?_) (fun c_22 => ?_)
      · obtain ⟨v, hv, rfl⟩ := inR_get c_22 (by omega)
        refine lv_aload_n hx hb dX5_setWear_27 rfl (lv_at hl 0 rfl) ?_
        refine z_get cx hw 0 1 rfl rfl inlX5 (by decide) wd_19 rfl dX5_setWear_28 ?_
        refine lv_aload_n hx hb dX5_setWear_31 rfl (lv_at hl 0 rfl) ?_
        refine z_get cx hw 0 0 rfl rfl inlX5 (by decide) wd_15 rfl dX5_setWear_32 ?_
        refine z_rv0 (wr := [(h0, ob 5 [.ref hS, .ref hH, .ref hC, .ref hG, .ref hR])]) cx hw [1, 2, 3, 4, 5] [0] rfl rfl (by decide) (by decide) rfl rfl (z_runVN (As := [.ref hS]) (rest := []) cx hw rfl rfl [1, 2, 3, 4, 5] rfl rfl (c_X2_save l E hH qc qn G C sv nx hS q F n (by omega) (by omega) H.size) mf_X2_save (nm_X5_55 hN) ⟨Nat.le_of_ble_eq_true rfl, Nat.le_of_ble_eq_true rfl⟩ hl (Nat.le_of_ble_eq_true rfl) dX5_setWear_35 ⟨Nat.le_of_ble_eq_true rfl, Nat.le_of_ble_eq_true rfl⟩) (fun _ H locs hp hw => ?_)
        have hw : ZW E A s [(h0, ob 5 [.ref hS, .ref hH, .ref hC, .ref hG, .ref hR]), (hH, ob 2 [.ref qc, .ref qn, .int (nI (incN sv)), .int (nI (nxtN nx))]), (qc, ia E 480 (nA (cpyN F G 0 (96 * nx) 96))), (qn, ia E 5 (nA (updN C nx n))), (hS, ob 4 [.ref q, .int (nI n)]), (q, ia E 96 (nA F))] H locs := hw
        refine lv_aload_n hx hb dX5_setWear_38 rfl (lv_at hl 0 rfl) ?_
        refine z_get cx hw 0 0 rfl rfl inlX5 (by decide) wd_15 rfl dX5_setWear_39 ?_
        refine lv_iload_n hx hb dX5_setWear_42 rfl (lv_at hl 1 rfl) ?_
        refine lv_iload_n hx hb dX5_setWear_43 rfl (lv_at hl 2 rfl) ?_
        refine z_ri0 (wr := [(h0, ob 5 [.ref hS, .ref hH, .ref hC, .ref hG, .ref hR]), (hH, ob 2 [.ref qc, .ref qn, .int (nI (incN sv)), .int (nI (nxtN nx))]), (qc, ia E 480 (nA (cpyN F G 0 (96 * nx) 96))), (qn, ia E 5 (nA (updN C nx n)))]) cx hw [4, 5] [0, 1, 2, 3] rfl rfl (by decide) (by decide) rfl rfl (z_runVN (As := [.int (nI k), .int (nI t)]) (rest := []) cx hw rfl rfl [4, 5] rfl rfl (c_X4_wear l E hS q F n k t (by omega) (by omega) H.size) mf_X4_wear (nm_X5_76 hN) ⟨Nat.le_of_ble_eq_true rfl, Nat.le_of_ble_eq_true rfl⟩ hl (Nat.le_of_ble_eq_true rfl) dX5_setWear_44 ⟨Nat.le_of_ble_eq_true rfl, Nat.le_of_ble_eq_true rfl⟩) (fun r _ H locs hp hw => ?_)
        have hr_44 := hp
        have hr_44 : r = nI (F (4 * k + 2 + t)) := hr_44
        subst hr_44
        have hw : ZW E A s [(h0, ob 5 [.ref hS, .ref hH, .ref hC, .ref hG, .ref hR]), (hH, ob 2 [.ref qc, .ref qn, .int (nI (incN sv)), .int (nI (nxtN nx))]), (qc, ia E 480 (nA (cpyN F G 0 (96 * nx) 96))), (qn, ia E 5 (nA (updN C nx n))), (hS, ob 4 [.ref q, .int (nI n)]), (q, ia E 96 (nA F))] H locs := hw
        refine lv_istore (lv' := [(4, .int (nI (F (4 * k + 2 + t)))), (0, .ref h0), (1, .int (nI k)), (2, .int (nI t)), (3, .int (nI v))]) hx hb dX5_setWear_47 hl (by decide) rfl (fun ls hl => ?_)
        refine lv_aload_n hx hb dX5_setWear_49 rfl (lv_at hl 1 rfl) ?_
        refine z_get cx hw 0 0 rfl rfl inlX5 (by decide) wd_15 rfl dX5_setWear_50 ?_
        refine lv_iload_n hx hb dX5_setWear_53 rfl (lv_at hl 2 rfl) ?_
        refine lv_iload_n hx hb dX5_setWear_54 rfl (lv_at hl 3 rfl) ?_
        refine lv_iload_n hx hb dX5_setWear_55 rfl (lv_at hl 4 rfl) ?_
        refine z_rv0 (wr := [(h0, ob 5 [.ref hS, .ref hH, .ref hC, .ref hG, .ref hR]), (hH, ob 2 [.ref qc, .ref qn, .int (nI (incN sv)), .int (nI (nxtN nx))]), (qc, ia E 480 (nA (cpyN F G 0 (96 * nx) 96))), (qn, ia E 5 (nA (updN C nx n)))]) cx hw [4, 5] [0, 1, 2, 3] rfl rfl (by decide) (by decide) rfl rfl (z_runVN (As := [.int (nI k), .int (nI t), .int (nI v)]) (rest := []) cx hw rfl rfl [4, 5] rfl rfl (c_X4_putWear l E hS q F n k t v (by omega) (by omega) H.size) mf_X4_putWear (nm_X5_63 hN) ⟨Nat.le_of_ble_eq_true rfl, Nat.le_of_ble_eq_true rfl⟩ hl (Nat.le_of_ble_eq_true rfl) dX5_setWear_56 ⟨Nat.le_of_ble_eq_true rfl, Nat.le_of_ble_eq_true rfl⟩) (fun _ H locs hp hw => ?_)
        have hw : ZW E A s [(h0, ob 5 [.ref hS, .ref hH, .ref hC, .ref hG, .ref hR]), (hH, ob 2 [.ref qc, .ref qn, .int (nI (incN sv)), .int (nI (nxtN nx))]), (qc, ia E 480 (nA (cpyN F G 0 (96 * nx) 96))), (qn, ia E 5 (nA (updN C nx n))), (hS, ob 4 [.ref q, .int (nI n)]), (q, ia E 96 (nA (updN F (4 * k + 2 + t) v)))] H locs := hw
        refine lv_iload hx hb dX5_setWear_59 (lv_at hl 0 rfl) ?_
        have ho_ : okW n (nI k) (nI t) (nI v) = true := by simp only [okW, c_8, c_15, c_22, Bool.and_self]
        have hs_ : setS (F, n, G, C, sv, nx) (nI k) (nI t) (nI v) = sav (F, n, G, C, sv, nx) (updN F (4 * k + 2 + t) v) n := by rw [setS, if_pos ho_, cl_nI hk (by omega), cl_nI ht (by decide), cl_nI hv (by decide)]
        have e_r61_0 : n = ((setS (F, n, G, C, sv, nx) (nI k) (nI t) (nI v)).2.1) := by rw [hs_]; rfl
        have e_r61_1 : (updN F (4 * k + 2 + t) v) = ((setS (F, n, G, C, sv, nx) (nI k) (nI t) (nI v)).1) := by rw [hs_]; rfl
        have e_r61_2 : (incN sv) = ((setS (F, n, G, C, sv, nx) (nI k) (nI t) (nI v)).2.2.2.2.1) := by rw [hs_]; rfl
        have e_r61_3 : (nxtN nx) = ((setS (F, n, G, C, sv, nx) (nI k) (nI t) (nI v)).2.2.2.2.2) := by rw [hs_]; rfl
        have e_r61_4 : (cpyN F G 0 (96 * nx) 96) = ((setS (F, n, G, C, sv, nx) (nI k) (nI t) (nI v)).2.2.1) := by rw [hs_]; rfl
        have e_r61_5 : (updN C nx n) = ((setS (F, n, G, C, sv, nx) (nI k) (nI t) (nI v)).2.2.2.1) := by rw [hs_]; rfl
        exact ret (nI (F (4 * k + 2 + t))) () 61 ls H locs dX5_setWear_61 (by simp only [setR, ho_, if_true]; rw [cl_nI hk (by omega), cl_nI ht (by decide)]) ((hw.perm [0, 4, 5, 1, 2, 3] rfl (by decide)).cast (zc rfl (zc (congrArg (fun z => ((hS, ob 4 [.ref q, .int (nI z)]) : Nat × va_E)) e_r61_0) (zc (congrArg (fun z => ((q, ia E 96 (nA z)) : Nat × va_E)) e_r61_1) (zc ((congrArg (fun z => ((hH, ob 2 [.ref qc, .ref qn, .int (nI z), .int (nI (nxtN nx))]) : Nat × va_E)) e_r61_2).trans (congrArg (fun z => ((hH, ob 2 [.ref qc, .ref qn, .int (nI ((setS (F, n, G, C, sv, nx) (nI k) (nI t) (nI v)).2.2.2.2.1)), .int (nI z)]) : Nat × va_E)) e_r61_3)) (zc (congrArg (fun z => ((qc, ia E 480 (nA z)) : Nat × va_E)) e_r61_4) (zc (congrArg (fun z => ((qn, ia E 5 (nA z)) : Nat × va_E)) e_r61_5) rfl)))))))
      · refine lv_iconst (v := (-1)) hx hb dX5_setWear_25 (by decide) ?_
        have ho_ : okW n (nI k) (nI t) w = false := by simp [okW, c_22]
        have hs_ : setS (F, n, G, C, sv, nx) (nI k) (nI t) w = (F, n, G, C, sv, nx) := if_neg (fun z => by dsimp only at z; rw [ho_] at z; exact absurd z (by decide))
        have e_r26_0 : n = ((setS (F, n, G, C, sv, nx) (nI k) (nI t) w).2.1) := by rw [hs_]
        have e_r26_1 : F = ((setS (F, n, G, C, sv, nx) (nI k) (nI t) w).1) := by rw [hs_]
        have e_r26_2 : sv = ((setS (F, n, G, C, sv, nx) (nI k) (nI t) w).2.2.2.2.1) := by rw [hs_]
        have e_r26_3 : nx = ((setS (F, n, G, C, sv, nx) (nI k) (nI t) w).2.2.2.2.2) := by rw [hs_]
        have e_r26_4 : G = ((setS (F, n, G, C, sv, nx) (nI k) (nI t) w).2.2.1) := by rw [hs_]
        have e_r26_5 : C = ((setS (F, n, G, C, sv, nx) (nI k) (nI t) w).2.2.2.1) := by rw [hs_]
        exact ret ((-1)) () 26 ls H locs dX5_setWear_26 (by simp only [setR, ho_]; rfl) ((hw.perm [0, 4, 5, 1, 2, 3] rfl (by decide)).cast (zc rfl (zc (congrArg (fun z => ((hS, ob 4 [.ref q, .int (nI z)]) : Nat × va_E)) e_r26_0) (zc (congrArg (fun z => ((q, ia E 96 (nA z)) : Nat × va_E)) e_r26_1) (zc ((congrArg (fun z => ((hH, ob 2 [.ref qc, .ref qn, .int (nI z), .int (nI nx)]) : Nat × va_E)) e_r26_2).trans (congrArg (fun z => ((hH, ob 2 [.ref qc, .ref qn, .int (nI ((setS (F, n, G, C, sv, nx) (nI k) (nI t) w).2.2.2.2.1)), .int (nI z)]) : Nat × va_E)) e_r26_3)) (zc (congrArg (fun z => ((qc, ia E 480 (nA z)) : Nat × va_E)) e_r26_4) (zc (congrArg (fun z => ((qn, ia E 5 (nA z)) : Nat × va_E)) e_r26_5) rfl)))))))

def rmX5_mergeDies : Room := { frames := 2, cells := 0, slots := 0, locals := 81 }
set_option maxHeartbeats 4000000 in
set_option maxRecDepth 100000 in
theorem c_X5_mergeDies (l : Launch) (E : ZE) (h0 hS hH hC hG hR : Nat) (q : Nat) (F : Nat → Nat) (n : Nat) (qc qn : Nat) (G C : Nat → Nat) (sv nx : Nat) (sd x y : Int32) (hn : n ≤ 24) (hF : ∀ j, F j < 10) (hnx : nx < 5) (hsv : sv ≤ 5) : ZMi l yX5_mergeDies cX5_mergeDies 4 (some .int) rmX5_mergeDies E [.ref h0, .int sd, .int x, .int y] [(h0, ob 5 [.ref hS, .ref hH, .ref hC, .ref hG, .ref hR]), (hS, ob 4 [.ref q, .int (nI n)]), (q, ia E 96 (nA F)), (hH, ob 2 [.ref qc, .ref qn, .int (nI sv), .int (nI nx)]), (qc, ia E 480 (nA G)), (qn, ia E 5 (nA C))] (S := Unit) (fun r _ => r = mrgR F n sd x y) (fun _ => [(h0, ob 5 [.ref hS, .ref hH, .ref hC, .ref hG, .ref hR]), (hS, ob 4 [.ref q, .int (nI ((mrgS (F, n, G, C, sv, nx) sd x y).2.1))]), (q, ia E 96 (nA ((mrgS (F, n, G, C, sv, nx) sd x y).1))), (hH, ob 2 [.ref qc, .ref qn, .int (nI ((mrgS (F, n, G, C, sv, nx) sd x y).2.2.2.2.1)), .int (nI ((mrgS (F, n, G, C, sv, nx) sd x y).2.2.2.2.2))]), (qc, ia E 480 (nA ((mrgS (F, n, G, C, sv, nx) sd x y).2.2.1))), (qn, ia E 5 (nA ((mrgS (F, n, G, C, sv, nx) sd x y).2.2.2.1)))]) := by
  refine z_mi (by decide) (Nat.le_of_ble_eq_true rfl) ?_
  intro p e s m args below meth c A Q ls cx hin hw hl ret
  obtain ⟨hx, hb, hml, hown, hts, hK, hN, hA, hlk⟩ := id cx
  have hl : lv_has ls 4 [(0, .ref h0), (1, .int sd), (2, .int x), (3, .int y)] := hl
  refine lv_iload_n hx hb dX5_mergeDies_0 rfl (lv_at hl 1 rfl) ?_
  refine z_ri0 (wr := [(h0, ob 5 [.ref hS, .ref hH, .ref hC, .ref hG, .ref hR]), (hS, ob 4 [.ref q, .int (nI n)]), (q, ia E 96 (nA F)), (hH, ob 2 [.ref qc, .ref qn, .int (nI sv), .int (nI nx)]), (qc, ia E 480 (nA G)), (qn, ia E 5 (nA C))]) cx hw [] [0, 1, 2, 3, 4, 5] rfl rfl (by decide) (by decide) rfl rfl (z_runS (As := [.int sd]) (rest := []) cx hw [] rfl rfl (c_X5_isSide l E sd  s.heap.size) mf_X5_isSide wd_139 ⟨Nat.le_of_ble_eq_true rfl, Nat.le_of_ble_eq_true rfl⟩ hl (Nat.le_of_ble_eq_true rfl) dX5_mergeDies_1 ⟨Nat.le_of_ble_eq_true rfl, Nat.le_of_ble_eq_true rfl⟩) (fun r _ H locs hp hw => ?_)
  have hr_1 := hp
  have hr_1 : r = bI (inR sd 2) := hr_1
  subst hr_1
  have hw : ZW E A s [(h0, ob 5 [.ref hS, .ref hH, .ref hC, .ref hG, .ref hR]), (hS, ob 4 [.ref q, .int (nI n)]), (q, ia E 96 (nA F)), (hH, ob 2 [.ref qc, .ref qn, .int (nI sv), .int (nI nx)]), (qc, ia E 480 (nA G)), (qn, ia E 5 (nA C))] H locs := hw
  refine z_ifb_eq hx hb 21 dX5_mergeDies_4 (by decide) (fun c_4 => ?_) (fun c_4 => ?_)
  · refine lv_iconst (v := (-1)) hx hb dX5_mergeDies_21 (by decide) ?_
    have ho_ : okM (sd) (x) (y) = false := by simp [okM, c_4]
    have hs_ : mrgS (F, n, G, C, sv, nx) (sd) (x) (y) = (F, n, G, C, sv, nx) := if_neg (fun z => by rw [ho_] at z; exact absurd z.1 (by decide))
    have e_r22_0 : n = ((mrgS (F, n, G, C, sv, nx) sd x y).2.1) := by rw [hs_]
    have e_r22_1 : F = ((mrgS (F, n, G, C, sv, nx) sd x y).1) := by rw [hs_]
    have e_r22_2 : sv = ((mrgS (F, n, G, C, sv, nx) sd x y).2.2.2.2.1) := by rw [hs_]
    have e_r22_3 : nx = ((mrgS (F, n, G, C, sv, nx) sd x y).2.2.2.2.2) := by rw [hs_]
    have e_r22_4 : G = ((mrgS (F, n, G, C, sv, nx) sd x y).2.2.1) := by rw [hs_]
    have e_r22_5 : C = ((mrgS (F, n, G, C, sv, nx) sd x y).2.2.2.1) := by rw [hs_]
    exact ret ((-1)) () 22 ls H locs dX5_mergeDies_22 (by simp only [mrgR, ho_]; rfl) ((hw).cast (zc rfl (zc (congrArg (fun z => ((hS, ob 4 [.ref q, .int (nI z)]) : Nat × va_E)) e_r22_0) (zc (congrArg (fun z => ((q, ia E 96 (nA z)) : Nat × va_E)) e_r22_1) (zc ((congrArg (fun z => ((hH, ob 2 [.ref qc, .ref qn, .int (nI z), .int (nI nx)]) : Nat × va_E)) e_r22_2).trans (congrArg (fun z => ((hH, ob 2 [.ref qc, .ref qn, .int (nI ((mrgS (F, n, G, C, sv, nx) sd x y).2.2.2.2.1)), .int (nI z)]) : Nat × va_E)) e_r22_3)) (zc (congrArg (fun z => ((qc, ia E 480 (nA z)) : Nat × va_E)) e_r22_4) (zc (congrArg (fun z => ((qn, ia E 5 (nA z)) : Nat × va_E)) e_r22_5) rfl)))))))
  · obtain ⟨t, ht, rfl⟩ := inR_get c_4 (by omega)
    refine lv_iload_n hx hb dX5_mergeDies_7 rfl (lv_at hl 2 rfl) ?_
    refine z_ri0 (wr := [(h0, ob 5 [.ref hS, .ref hH, .ref hC, .ref hG, .ref hR]), (hS, ob 4 [.ref q, .int (nI n)]), (q, ia E 96 (nA F)), (hH, ob 2 [.ref qc, .ref qn, .int (nI sv), .int (nI nx)]), (qc, ia E 480 (nA G)), (qn, ia E 5 (nA C))]) cx hw [] [0, 1, 2, 3, 4, 5] rfl rfl (by decide) (by decide) rfl rfl (z_runS (As := [.int x]) (rest := []) cx hw [] rfl rfl (c_X5_isDie l E x  H.size) mf_X5_isDie wd_85 ⟨Nat.le_of_ble_eq_true rfl, Nat.le_of_ble_eq_true rfl⟩ hl (Nat.le_of_ble_eq_true rfl) dX5_mergeDies_8 ⟨Nat.le_of_ble_eq_true rfl, Nat.le_of_ble_eq_true rfl⟩) (fun r _ H locs hp hw => ?_)
    have hr_8 := hp
    have hr_8 : r = bI (inR x 10) := hr_8
    subst hr_8
    have hw : ZW E A s [(h0, ob 5 [.ref hS, .ref hH, .ref hC, .ref hG, .ref hR]), (hS, ob 4 [.ref q, .int (nI n)]), (q, ia E 96 (nA F)), (hH, ob 2 [.ref qc, .ref qn, .int (nI sv), .int (nI nx)]), (qc, ia E 480 (nA G)), (qn, ia E 5 (nA C))] H locs := hw
    refine z_ifb_eq hx hb 21 dX5_mergeDies_11 (by decide) (fun c_11 => ?_) (fun c_11 => ?_)
    · refine lv_iconst (v := (-1)) hx hb dX5_mergeDies_21 (by decide) ?_
      have ho_ : okM (nI t) (x) (y) = false := by simp [okM, c_11]
      have hs_ : mrgS (F, n, G, C, sv, nx) (nI t) (x) (y) = (F, n, G, C, sv, nx) := if_neg (fun z => by rw [ho_] at z; exact absurd z.1 (by decide))
      have e_r22_0 : n = ((mrgS (F, n, G, C, sv, nx) (nI t) x y).2.1) := by rw [hs_]
      have e_r22_1 : F = ((mrgS (F, n, G, C, sv, nx) (nI t) x y).1) := by rw [hs_]
      have e_r22_2 : sv = ((mrgS (F, n, G, C, sv, nx) (nI t) x y).2.2.2.2.1) := by rw [hs_]
      have e_r22_3 : nx = ((mrgS (F, n, G, C, sv, nx) (nI t) x y).2.2.2.2.2) := by rw [hs_]
      have e_r22_4 : G = ((mrgS (F, n, G, C, sv, nx) (nI t) x y).2.2.1) := by rw [hs_]
      have e_r22_5 : C = ((mrgS (F, n, G, C, sv, nx) (nI t) x y).2.2.2.1) := by rw [hs_]
      exact ret ((-1)) () 22 ls H locs dX5_mergeDies_22 (by simp only [mrgR, ho_]; rfl) ((hw).cast (zc rfl (zc (congrArg (fun z => ((hS, ob 4 [.ref q, .int (nI z)]) : Nat × va_E)) e_r22_0) (zc (congrArg (fun z => ((q, ia E 96 (nA z)) : Nat × va_E)) e_r22_1) (zc ((congrArg (fun z => ((hH, ob 2 [.ref qc, .ref qn, .int (nI z), .int (nI nx)]) : Nat × va_E)) e_r22_2).trans (congrArg (fun z => ((hH, ob 2 [.ref qc, .ref qn, .int (nI ((mrgS (F, n, G, C, sv, nx) (nI t) x y).2.2.2.2.1)), .int (nI z)]) : Nat × va_E)) e_r22_3)) (zc (congrArg (fun z => ((qc, ia E 480 (nA z)) : Nat × va_E)) e_r22_4) (zc (congrArg (fun z => ((qn, ia E 5 (nA z)) : Nat × va_E)) e_r22_5) rfl)))))))
    · obtain ⟨a2, ha, rfl⟩ := inR_get c_11 (by omega)
      refine lv_iload_n hx hb dX5_mergeDies_14 rfl (lv_at hl 3 rfl) ?_
      refine z_ri0 (wr := [(h0, ob 5 [.ref hS, .ref hH, .ref hC, .ref hG, .ref hR]), (hS, ob 4 [.ref q, .int (nI n)]), (q, ia E 96 (nA F)), (hH, ob 2 [.ref qc, .ref qn, .int (nI sv), .int (nI nx)]), (qc, ia E 480 (nA G)), (qn, ia E 5 (nA C))]) cx hw [] [0, 1, 2, 3, 4, 5] rfl rfl (by decide) (by decide) rfl rfl (z_runS (As := [.int y]) (rest := []) cx hw [] rfl rfl (c_X5_isDie l E y  H.size) mf_X5_isDie wd_85 ⟨Nat.le_of_ble_eq_true rfl, Nat.le_of_ble_eq_true rfl⟩ hl (Nat.le_of_ble_eq_true rfl) dX5_mergeDies_15 ⟨Nat.le_of_ble_eq_true rfl, Nat.le_of_ble_eq_true rfl⟩) (fun r _ H locs hp hw => ?_)
      have hr_15 := hp
      have hr_15 : r = bI (inR y 10) := hr_15
      subst hr_15
      have hw : ZW E A s [(h0, ob 5 [.ref hS, .ref hH, .ref hC, .ref hG, .ref hR]), (hS, ob 4 [.ref q, .int (nI n)]), (q, ia E 96 (nA F)), (hH, ob 2 [.ref qc, .ref qn, .int (nI sv), .int (nI nx)]), (qc, ia E 480 (nA G)), (qn, ia E 5 (nA C))] H locs := hw
      refine z_ifb_ne hx hb 23 dX5_mergeDies_18 (by decide) (fun c_18 => ?_) (fun c_18 => ?_)
      · obtain ⟨b2, hb2, rfl⟩ := inR_get c_18 (by omega)
        refine lv_aload_n hx hb dX5_mergeDies_23 rfl (lv_at hl 0 rfl) ?_
        refine z_get cx hw 0 0 rfl rfl inlX5 (by decide) wd_15 rfl dX5_mergeDies_24 ?_
        refine lv_iload_n hx hb dX5_mergeDies_27 rfl (lv_at hl 1 rfl) ?_
        refine lv_iload_n hx hb dX5_mergeDies_28 rfl (lv_at hl 2 rfl) ?_
        refine z_ri0 (wr := [(h0, ob 5 [.ref hS, .ref hH, .ref hC, .ref hG, .ref hR]), (hH, ob 2 [.ref qc, .ref qn, .int (nI sv), .int (nI nx)]), (qc, ia E 480 (nA G)), (qn, ia E 5 (nA C))]) cx hw [1, 2] [0, 3, 4, 5] rfl rfl (by decide) (by decide) rfl rfl (z_runVN (As := [.int (nI t), .int (nI a2)]) (rest := []) cx hw rfl rfl [1, 2] rfl rfl (c_X4_struckWith l E hS q F n t a2 (by omega) (hF) (by omega) (by omega) H.size) mf_X4_struckWith (nm_X5_80 hN) ⟨Nat.le_of_ble_eq_true rfl, Nat.le_of_ble_eq_true rfl⟩ hl (Nat.le_of_ble_eq_true rfl) dX5_mergeDies_29 ⟨Nat.le_of_ble_eq_true rfl, Nat.le_of_ble_eq_true rfl⟩) (fun r _ H locs hp hw => ?_)
        have hr_29 := hp
        have hr_29 : r = nI (cnt F t a2 n) := hr_29
        subst hr_29
        have hw : ZW E A s [(h0, ob 5 [.ref hS, .ref hH, .ref hC, .ref hG, .ref hR]), (hH, ob 2 [.ref qc, .ref qn, .int (nI sv), .int (nI nx)]), (qc, ia E 480 (nA G)), (qn, ia E 5 (nA C)), (hS, ob 4 [.ref q, .int (nI n)]), (q, ia E 96 (nA F))] H locs := hw
        have hc_ := cnt_le F t a2 n
        refine z_if_ne hx hb (by omega) 38 dX5_mergeDies_32 (by decide) (fun c_32 => ?_) (fun c_32 => ?_)
        · refine lv_aload_n hx hb dX5_mergeDies_38 rfl (lv_at hl 0 rfl) ?_
          refine z_get cx hw 0 1 rfl rfl inlX5 (by decide) wd_19 rfl dX5_mergeDies_39 ?_
          refine lv_aload_n hx hb dX5_mergeDies_42 rfl (lv_at hl 0 rfl) ?_
          refine z_get cx hw 0 0 rfl rfl inlX5 (by decide) wd_15 rfl dX5_mergeDies_43 ?_
          refine z_rv0 (wr := [(h0, ob 5 [.ref hS, .ref hH, .ref hC, .ref hG, .ref hR])]) cx hw [1, 2, 3, 4, 5] [0] rfl rfl (by decide) (by decide) rfl rfl (z_runVN (As := [.ref hS]) (rest := []) cx hw rfl rfl [1, 2, 3, 4, 5] rfl rfl (c_X2_save l E hH qc qn G C sv nx hS q F n (by omega) (by omega) H.size) mf_X2_save (nm_X5_55 hN) ⟨Nat.le_of_ble_eq_true rfl, Nat.le_of_ble_eq_true rfl⟩ hl (Nat.le_of_ble_eq_true rfl) dX5_mergeDies_46 ⟨Nat.le_of_ble_eq_true rfl, Nat.le_of_ble_eq_true rfl⟩) (fun _ H locs hp hw => ?_)
          have hw : ZW E A s [(h0, ob 5 [.ref hS, .ref hH, .ref hC, .ref hG, .ref hR]), (hH, ob 2 [.ref qc, .ref qn, .int (nI (incN sv)), .int (nI (nxtN nx))]), (qc, ia E 480 (nA (cpyN F G 0 (96 * nx) 96))), (qn, ia E 5 (nA (updN C nx n))), (hS, ob 4 [.ref q, .int (nI n)]), (q, ia E 96 (nA F))] H locs := hw
          refine lv_iload_n hx hb dX5_mergeDies_49 rfl (lv_at hl 2 rfl) ?_
          refine lv_iload_n hx hb dX5_mergeDies_50 rfl (lv_at hl 3 rfl) ?_
          refine z_icmp_ne hx hb (by omega) (by omega) 58 dX5_mergeDies_51 (by decide) (fun c_51 => ?_) (fun c_51 => ?_)
          · refine lv_aload_n hx hb dX5_mergeDies_58 rfl (lv_at hl 0 rfl) ?_
            refine z_get cx hw 0 0 rfl rfl inlX5 (by decide) wd_15 rfl dX5_mergeDies_59 ?_
            refine lv_iload_n hx hb dX5_mergeDies_62 rfl (lv_at hl 1 rfl) ?_
            refine lv_iload_n hx hb dX5_mergeDies_63 rfl (lv_at hl 2 rfl) ?_
            refine lv_iload_n hx hb dX5_mergeDies_64 rfl (lv_at hl 3 rfl) ?_
            refine z_ri0 (wr := [(h0, ob 5 [.ref hS, .ref hH, .ref hC, .ref hG, .ref hR]), (hH, ob 2 [.ref qc, .ref qn, .int (nI (incN sv)), .int (nI (nxtN nx))]), (qc, ia E 480 (nA (cpyN F G 0 (96 * nx) 96))), (qn, ia E 5 (nA (updN C nx n)))]) cx hw [4, 5] [0, 1, 2, 3] rfl rfl (by decide) (by decide) rfl rfl (z_runVN (As := [.int (nI t), .int (nI a2), .int (nI b2)]) (rest := []) cx hw rfl rfl [4, 5] rfl rfl (c_X4_replaceDie l E hS q F n t a2 b2 (by omega) (hF) (by omega) (by omega) H.size) mf_X4_replaceDie (nm_X5_83 hN) ⟨Nat.le_of_ble_eq_true rfl, Nat.le_of_ble_eq_true rfl⟩ hl (Nat.le_of_ble_eq_true rfl) dX5_mergeDies_65 ⟨Nat.le_of_ble_eq_true rfl, Nat.le_of_ble_eq_true rfl⟩) (fun r _ H locs hp hw => ?_)
            have hr_65 := hp
            have hr_65 : r = nI (cnt F t a2 n) := hr_65
            subst hr_65
            have hw : ZW E A s [(h0, ob 5 [.ref hS, .ref hH, .ref hC, .ref hG, .ref hR]), (hH, ob 2 [.ref qc, .ref qn, .int (nI (incN sv)), .int (nI (nxtN nx))]), (qc, ia E 480 (nA (cpyN F G 0 (96 * nx) 96))), (qn, ia E 5 (nA (updN C nx n))), (hS, ob 4 [.ref q, .int (nI n)]), (q, ia E 96 (nA (rep F t a2 b2 n)))] H locs := hw
            have ho_ : okM (nI t) (nI a2) (nI b2) = true := by simp only [okM, c_4, c_11, c_18, Bool.and_self]
            have e1_ := cl_nI ht (by decide)
            have e2_ := cl_nI ha (by decide)
            have e3_ := cl_nI hb2 (by decide)
            have hs_ : mrgS (F, n, G, C, sv, nx) (nI t) (nI a2) (nI b2) = sav (F, n, G, C, sv, nx) (rep F t a2 b2 n) n := by rw [mrgS, if_pos ⟨ho_, by rw [e1_, e2_]; exact c_32⟩, if_neg (by rw [e2_, e3_]; exact c_51), e1_, e2_, e3_]
            have e_r68_0 : n = ((mrgS (F, n, G, C, sv, nx) (nI t) (nI a2) (nI b2)).2.1) := by rw [hs_]; rfl
            have e_r68_1 : (rep F t a2 b2 n) = ((mrgS (F, n, G, C, sv, nx) (nI t) (nI a2) (nI b2)).1) := by rw [hs_]; rfl
            have e_r68_2 : (incN sv) = ((mrgS (F, n, G, C, sv, nx) (nI t) (nI a2) (nI b2)).2.2.2.2.1) := by rw [hs_]; rfl
            have e_r68_3 : (nxtN nx) = ((mrgS (F, n, G, C, sv, nx) (nI t) (nI a2) (nI b2)).2.2.2.2.2) := by rw [hs_]; rfl
            have e_r68_4 : (cpyN F G 0 (96 * nx) 96) = ((mrgS (F, n, G, C, sv, nx) (nI t) (nI a2) (nI b2)).2.2.1) := by rw [hs_]; rfl
            have e_r68_5 : (updN C nx n) = ((mrgS (F, n, G, C, sv, nx) (nI t) (nI a2) (nI b2)).2.2.2.1) := by rw [hs_]; rfl
            exact ret (nI (cnt F t a2 n)) () 68 ls H locs dX5_mergeDies_68 (by simp only [mrgR, ho_, if_true]; rw [e1_, e2_, if_neg (by omega), if_neg (by rw [e3_]; exact c_51)]) ((hw.perm [0, 4, 5, 1, 2, 3] rfl (by decide)).cast (zc rfl (zc (congrArg (fun z => ((hS, ob 4 [.ref q, .int (nI z)]) : Nat × va_E)) e_r68_0) (zc (congrArg (fun z => ((q, ia E 96 (nA z)) : Nat × va_E)) e_r68_1) (zc ((congrArg (fun z => ((hH, ob 2 [.ref qc, .ref qn, .int (nI z), .int (nI (nxtN nx))]) : Nat × va_E)) e_r68_2).trans (congrArg (fun z => ((hH, ob 2 [.ref qc, .ref qn, .int (nI ((mrgS (F, n, G, C, sv, nx) (nI t) (nI a2) (nI b2)).2.2.2.2.1)), .int (nI z)]) : Nat × va_E)) e_r68_3)) (zc (congrArg (fun z => ((qc, ia E 480 (nA z)) : Nat × va_E)) e_r68_4) (zc (congrArg (fun z => ((qn, ia E 5 (nA z)) : Nat × va_E)) e_r68_5) rfl)))))))
          · refine lv_iconst (v := nI 0) hx hb dX5_mergeDies_54 (by decide) ?_
            refine lv_goto (tgt := 68) hx hb dX5_mergeDies_55 (by decide) ?_
            have ho_ : okM (nI t) (nI a2) (nI b2) = true := by simp only [okM, c_4, c_11, c_18, Bool.and_self]
            have e1_ := cl_nI ht (by decide)
            have e2_ := cl_nI ha (by decide)
            have e3_ := cl_nI hb2 (by decide)
            have hs_ : mrgS (F, n, G, C, sv, nx) (nI t) (nI a2) (nI b2) = sav (F, n, G, C, sv, nx) F n := by rw [mrgS, if_pos ⟨ho_, by rw [e1_, e2_]; exact c_32⟩, if_pos (by rw [e2_, e3_]; exact c_51)]
            have e_r68_0 : n = ((mrgS (F, n, G, C, sv, nx) (nI t) (nI a2) (nI b2)).2.1) := by rw [hs_]; rfl
            have e_r68_1 : F = ((mrgS (F, n, G, C, sv, nx) (nI t) (nI a2) (nI b2)).1) := by rw [hs_]; rfl
            have e_r68_2 : (incN sv) = ((mrgS (F, n, G, C, sv, nx) (nI t) (nI a2) (nI b2)).2.2.2.2.1) := by rw [hs_]; rfl
            have e_r68_3 : (nxtN nx) = ((mrgS (F, n, G, C, sv, nx) (nI t) (nI a2) (nI b2)).2.2.2.2.2) := by rw [hs_]; rfl
            have e_r68_4 : (cpyN F G 0 (96 * nx) 96) = ((mrgS (F, n, G, C, sv, nx) (nI t) (nI a2) (nI b2)).2.2.1) := by rw [hs_]; rfl
            have e_r68_5 : (updN C nx n) = ((mrgS (F, n, G, C, sv, nx) (nI t) (nI a2) (nI b2)).2.2.2.1) := by rw [hs_]; rfl
            exact ret (nI 0) () 68 ls H locs dX5_mergeDies_68 (by simp only [mrgR, ho_, if_true]; rw [e1_, e2_, if_neg (by omega), if_pos (by rw [e3_]; exact c_51)]) ((hw.perm [0, 4, 5, 1, 2, 3] rfl (by decide)).cast (zc rfl (zc (congrArg (fun z => ((hS, ob 4 [.ref q, .int (nI z)]) : Nat × va_E)) e_r68_0) (zc (congrArg (fun z => ((q, ia E 96 (nA z)) : Nat × va_E)) e_r68_1) (zc ((congrArg (fun z => ((hH, ob 2 [.ref qc, .ref qn, .int (nI z), .int (nI (nxtN nx))]) : Nat × va_E)) e_r68_2).trans (congrArg (fun z => ((hH, ob 2 [.ref qc, .ref qn, .int (nI ((mrgS (F, n, G, C, sv, nx) (nI t) (nI a2) (nI b2)).2.2.2.2.1)), .int (nI z)]) : Nat × va_E)) e_r68_3)) (zc (congrArg (fun z => ((qc, ia E 480 (nA z)) : Nat × va_E)) e_r68_4) (zc (congrArg (fun z => ((qn, ia E 5 (nA z)) : Nat × va_E)) e_r68_5) rfl)))))))
        · refine lv_bipush (v := (-3)) hx hb dX5_mergeDies_35 (by decide) ?_
          have ho_ : okM (nI t) (nI a2) (nI b2) = true := by simp only [okM, c_4, c_11, c_18, Bool.and_self]
          have e1_ := cl_nI ht (by decide)
          have e2_ := cl_nI ha (by decide)
          have e3_ := cl_nI hb2 (by decide)
          have hs_ : mrgS (F, n, G, C, sv, nx) (nI t) (nI a2) (nI b2) = (F, n, G, C, sv, nx) := if_neg (fun z => by have z2 := z.2; rw [e1_, e2_] at z2; dsimp only at z2; omega)
          have e_r37_0 : n = ((mrgS (F, n, G, C, sv, nx) (nI t) (nI a2) (nI b2)).2.1) := by rw [hs_]
          have e_r37_1 : F = ((mrgS (F, n, G, C, sv, nx) (nI t) (nI a2) (nI b2)).1) := by rw [hs_]
          have e_r37_2 : sv = ((mrgS (F, n, G, C, sv, nx) (nI t) (nI a2) (nI b2)).2.2.2.2.1) := by rw [hs_]
          have e_r37_3 : nx = ((mrgS (F, n, G, C, sv, nx) (nI t) (nI a2) (nI b2)).2.2.2.2.2) := by rw [hs_]
          have e_r37_4 : G = ((mrgS (F, n, G, C, sv, nx) (nI t) (nI a2) (nI b2)).2.2.1) := by rw [hs_]
          have e_r37_5 : C = ((mrgS (F, n, G, C, sv, nx) (nI t) (nI a2) (nI b2)).2.2.2.1) := by rw [hs_]
          exact ret ((-3)) () 37 ls H locs dX5_mergeDies_37 (by simp only [mrgR, ho_, if_true]; rw [e1_, e2_, if_pos c_32]) ((hw.perm [0, 4, 5, 1, 2, 3] rfl (by decide)).cast (zc rfl (zc (congrArg (fun z => ((hS, ob 4 [.ref q, .int (nI z)]) : Nat × va_E)) e_r37_0) (zc (congrArg (fun z => ((q, ia E 96 (nA z)) : Nat × va_E)) e_r37_1) (zc ((congrArg (fun z => ((hH, ob 2 [.ref qc, .ref qn, .int (nI z), .int (nI nx)]) : Nat × va_E)) e_r37_2).trans (congrArg (fun z => ((hH, ob 2 [.ref qc, .ref qn, .int (nI ((mrgS (F, n, G, C, sv, nx) (nI t) (nI a2) (nI b2)).2.2.2.2.1)), .int (nI z)]) : Nat × va_E)) e_r37_3)) (zc (congrArg (fun z => ((qc, ia E 480 (nA z)) : Nat × va_E)) e_r37_4) (zc (congrArg (fun z => ((qn, ia E 5 (nA z)) : Nat × va_E)) e_r37_5) rfl)))))))
      · refine lv_iconst (v := (-1)) hx hb dX5_mergeDies_21 (by decide) ?_
        have ho_ : okM (nI t) (nI a2) (y) = false := by simp [okM, c_18]
        have hs_ : mrgS (F, n, G, C, sv, nx) (nI t) (nI a2) (y) = (F, n, G, C, sv, nx) := if_neg (fun z => by rw [ho_] at z; exact absurd z.1 (by decide))
        have e_r22_0 : n = ((mrgS (F, n, G, C, sv, nx) (nI t) (nI a2) y).2.1) := by rw [hs_]
        have e_r22_1 : F = ((mrgS (F, n, G, C, sv, nx) (nI t) (nI a2) y).1) := by rw [hs_]
        have e_r22_2 : sv = ((mrgS (F, n, G, C, sv, nx) (nI t) (nI a2) y).2.2.2.2.1) := by rw [hs_]
        have e_r22_3 : nx = ((mrgS (F, n, G, C, sv, nx) (nI t) (nI a2) y).2.2.2.2.2) := by rw [hs_]
        have e_r22_4 : G = ((mrgS (F, n, G, C, sv, nx) (nI t) (nI a2) y).2.2.1) := by rw [hs_]
        have e_r22_5 : C = ((mrgS (F, n, G, C, sv, nx) (nI t) (nI a2) y).2.2.2.1) := by rw [hs_]
        exact ret ((-1)) () 22 ls H locs dX5_mergeDies_22 (by simp only [mrgR, ho_]; rfl) ((hw).cast (zc rfl (zc (congrArg (fun z => ((hS, ob 4 [.ref q, .int (nI z)]) : Nat × va_E)) e_r22_0) (zc (congrArg (fun z => ((q, ia E 96 (nA z)) : Nat × va_E)) e_r22_1) (zc ((congrArg (fun z => ((hH, ob 2 [.ref qc, .ref qn, .int (nI z), .int (nI nx)]) : Nat × va_E)) e_r22_2).trans (congrArg (fun z => ((hH, ob 2 [.ref qc, .ref qn, .int (nI ((mrgS (F, n, G, C, sv, nx) (nI t) (nI a2) y).2.2.2.2.1)), .int (nI z)]) : Nat × va_E)) e_r22_3)) (zc (congrArg (fun z => ((qc, ia E 480 (nA z)) : Nat × va_E)) e_r22_4) (zc (congrArg (fun z => ((qn, ia E 5 (nA z)) : Nat × va_E)) e_r22_5) rfl)))))))

def rmX5_specimenCount : Room := { frames := 0, cells := 0, slots := 0, locals := 0 }
set_option maxHeartbeats 4000000 in
set_option maxRecDepth 100000 in
theorem c_X5_specimenCount (l : Launch) (E : ZE) (h0 hS hH hC hG hR : Nat) (q : Nat) (F : Nat → Nat) (n : Nat)  : ZMi l yX5_specimenCount cX5_specimenCount 1 (some .int) rmX5_specimenCount E [.ref h0] [(h0, ob 5 [.ref hS, .ref hH, .ref hC, .ref hG, .ref hR]), (hS, ob 4 [.ref q, .int (nI n)]), (q, ia E 96 (nA F))] (S := Unit) (fun r _ => r = nI n) (fun _ => [(h0, ob 5 [.ref hS, .ref hH, .ref hC, .ref hG, .ref hR]), (hS, ob 4 [.ref q, .int (nI n)]), (q, ia E 96 (nA F))]) := by
  refine z_mi (by decide) (Nat.le_of_ble_eq_true rfl) ?_
  intro p e s m args below meth c A Q ls cx hin hw hl ret
  obtain ⟨hx, hb, hml, hown, hts, hK, hN, hA, hlk⟩ := id cx
  have hl : lv_has ls 1 [(0, .ref h0)] := hl
  refine lv_aload_n hx hb dX5_specimenCount_0 rfl (lv_at hl 0 rfl) ?_
  refine z_get cx hw 0 0 rfl rfl inlX5 (by decide) wd_15 rfl dX5_specimenCount_1 ?_
  refine z_getN cx hw 1 1 rfl rfl inlX4 (by decide) (nf_X5_51 hN) rfl dX5_specimenCount_4 ?_
  exact ret (nI n) () 7 ls s.heap [] dX5_specimenCount_7 (rfl) (hw)

def rmX5_dieOf : Room := { frames := 1, cells := 0, slots := 0, locals := 22 }
set_option maxHeartbeats 4000000 in
set_option maxRecDepth 100000 in
theorem c_X5_dieOf (l : Launch) (E : ZE) (h0 hS hH hC hG hR : Nat) (q : Nat) (F : Nat → Nat) (n : Nat) (x sd : Int32) (hn : n ≤ 24) : ZMi l yX5_dieOf cX5_dieOf 3 (some .int) rmX5_dieOf E [.ref h0, .int x, .int sd] [(h0, ob 5 [.ref hS, .ref hH, .ref hC, .ref hG, .ref hR]), (hS, ob 4 [.ref q, .int (nI n)]), (q, ia E 96 (nA F))] (S := Unit) (fun r _ => r = dofR F n x sd) (fun _ => [(h0, ob 5 [.ref hS, .ref hH, .ref hC, .ref hG, .ref hR]), (hS, ob 4 [.ref q, .int (nI n)]), (q, ia E 96 (nA F))]) := by
  refine z_mi (by decide) (Nat.le_of_ble_eq_true rfl) ?_
  intro p e s m args below meth c A Q ls cx hin hw hl ret
  obtain ⟨hx, hb, hml, hown, hts, hK, hN, hA, hlk⟩ := id cx
  have hl : lv_has ls 3 [(0, .ref h0), (1, .int x), (2, .int sd)] := hl
  refine lv_aload_n hx hb dX5_dieOf_0 rfl (lv_at hl 0 rfl) ?_
  refine z_get cx hw 0 0 rfl rfl inlX5 (by decide) wd_15 rfl dX5_dieOf_1 ?_
  refine lv_iload_n hx hb dX5_dieOf_4 rfl (lv_at hl 1 rfl) ?_
  refine z_ri0 (wr := [(h0, ob 5 [.ref hS, .ref hH, .ref hC, .ref hG, .ref hR])]) cx hw [1, 2] [0] rfl rfl (by decide) (by decide) rfl rfl (z_runVN (As := [.int x]) (rest := []) cx hw rfl rfl [1, 2] rfl rfl (c_X4_has l E hS q F n x (by omega) s.heap.size) mf_X4_has (nm_X5_66 hN) ⟨Nat.le_of_ble_eq_true rfl, Nat.le_of_ble_eq_true rfl⟩ hl (Nat.le_of_ble_eq_true rfl) dX5_dieOf_5 ⟨Nat.le_of_ble_eq_true rfl, Nat.le_of_ble_eq_true rfl⟩) (fun r _ H locs hp hw => ?_)
  have hr_5 := hp
  have hr_5 : r = bI (inR x n) := hr_5
  subst hr_5
  have hw : ZW E A s [(h0, ob 5 [.ref hS, .ref hH, .ref hC, .ref hG, .ref hR]), (hS, ob 4 [.ref q, .int (nI n)]), (q, ia E 96 (nA F))] H locs := hw
  refine z_ifb_eq hx hb 18 dX5_dieOf_8 (by decide) (fun c_8 => ?_) (fun c_8 => ?_)
  · refine lv_iconst (v := (-1)) hx hb dX5_dieOf_18 (by decide) ?_
    exact ret ((-1)) () 19 ls H locs dX5_dieOf_19 (by simp [dofR, c_8]) (hw)
  · obtain ⟨k, hk, rfl⟩ := inR_get c_8 (by omega)
    refine lv_iload_n hx hb dX5_dieOf_11 rfl (lv_at hl 2 rfl) ?_
    refine z_ri0 (wr := [(h0, ob 5 [.ref hS, .ref hH, .ref hC, .ref hG, .ref hR]), (hS, ob 4 [.ref q, .int (nI n)]), (q, ia E 96 (nA F))]) cx hw [] [0, 1, 2] rfl rfl (by decide) (by decide) rfl rfl (z_runS (As := [.int sd]) (rest := []) cx hw [] rfl rfl (c_X5_isSide l E sd  H.size) mf_X5_isSide wd_139 ⟨Nat.le_of_ble_eq_true rfl, Nat.le_of_ble_eq_true rfl⟩ hl (Nat.le_of_ble_eq_true rfl) dX5_dieOf_12 ⟨Nat.le_of_ble_eq_true rfl, Nat.le_of_ble_eq_true rfl⟩) (fun r _ H locs hp hw => ?_)
    have hr_12 := hp
    have hr_12 : r = bI (inR sd 2) := hr_12
    subst hr_12
    have hw : ZW E A s [(h0, ob 5 [.ref hS, .ref hH, .ref hC, .ref hG, .ref hR]), (hS, ob 4 [.ref q, .int (nI n)]), (q, ia E 96 (nA F))] H locs := hw
    refine z_ifb_ne hx hb 20 dX5_dieOf_15 (by decide) (fun c_15 => ?_) (fun c_15 => ?_)
    · obtain ⟨t, ht, rfl⟩ := inR_get c_15 (by omega)
      refine lv_aload_n hx hb dX5_dieOf_20 rfl (lv_at hl 0 rfl) ?_
      refine z_get cx hw 0 0 rfl rfl inlX5 (by decide) wd_15 rfl dX5_dieOf_21 ?_
      refine lv_iload_n hx hb dX5_dieOf_24 rfl (lv_at hl 1 rfl) ?_
      refine lv_iload_n hx hb dX5_dieOf_25 rfl (lv_at hl 2 rfl) ?_
      refine z_ri0 (wr := [(h0, ob 5 [.ref hS, .ref hH, .ref hC, .ref hG, .ref hR])]) cx hw [1, 2] [0] rfl rfl (by decide) (by decide) rfl rfl (z_runVN (As := [.int (nI k), .int (nI t)]) (rest := []) cx hw rfl rfl [1, 2] rfl rfl (c_X4_die l E hS q F n k t (by omega) (by omega) H.size) mf_X4_die (nm_X5_87 hN) ⟨Nat.le_of_ble_eq_true rfl, Nat.le_of_ble_eq_true rfl⟩ hl (Nat.le_of_ble_eq_true rfl) dX5_dieOf_26 ⟨Nat.le_of_ble_eq_true rfl, Nat.le_of_ble_eq_true rfl⟩) (fun r _ H locs hp hw => ?_)
      have hr_26 := hp
      have hr_26 : r = nI (F (4 * k + t)) := hr_26
      subst hr_26
      have hw : ZW E A s [(h0, ob 5 [.ref hS, .ref hH, .ref hC, .ref hG, .ref hR]), (hS, ob 4 [.ref q, .int (nI n)]), (q, ia E 96 (nA F))] H locs := hw
      exact ret (nI (F (4 * k + t))) () 29 ls H locs dX5_dieOf_29 (by simp only [dofR, c_8, c_15, Bool.and_self, if_true]; rw [cl_nI hk (by omega), cl_nI ht (by decide)]) (hw)
    · refine lv_iconst (v := (-1)) hx hb dX5_dieOf_18 (by decide) ?_
      exact ret ((-1)) () 19 ls H locs dX5_dieOf_19 (by simp [dofR, c_15]) (hw)

def rmX5_dieCount : Room := { frames := 3, cells := 0, slots := 0, locals := 69 }
set_option maxHeartbeats 4000000 in
set_option maxRecDepth 100000 in
theorem c_X5_dieCount (l : Launch) (E : ZE) (h0 hS hH hC hG hR : Nat) (q : Nat) (F : Nat → Nat) (n : Nat) (sd : Int32) (hn : n ≤ 24) (hF : ∀ j, F j < 10) : ZMi l yX5_dieCount cX5_dieCount 2 (some .int) rmX5_dieCount E [.ref h0, .int sd] [(h0, ob 5 [.ref hS, .ref hH, .ref hC, .ref hG, .ref hR]), (hS, ob 4 [.ref q, .int (nI n)]), (q, ia E 96 (nA F))] (S := Unit) (fun r _ => r = dcR F n sd) (fun _ => [(h0, ob 5 [.ref hS, .ref hH, .ref hC, .ref hG, .ref hR]), (hS, ob 4 [.ref q, .int (nI n)]), (q, ia E 96 (nA F))]) := by
  refine z_mi (by decide) (Nat.le_of_ble_eq_true rfl) ?_
  intro p e s m args below meth c A Q ls cx hin hw hl ret
  obtain ⟨hx, hb, hml, hown, hts, hK, hN, hA, hlk⟩ := id cx
  have hl : lv_has ls 2 [(0, .ref h0), (1, .int sd)] := hl
  refine lv_iload_n hx hb dX5_dieCount_0 rfl (lv_at hl 1 rfl) ?_
  refine z_ri0 (wr := [(h0, ob 5 [.ref hS, .ref hH, .ref hC, .ref hG, .ref hR]), (hS, ob 4 [.ref q, .int (nI n)]), (q, ia E 96 (nA F))]) cx hw [] [0, 1, 2] rfl rfl (by decide) (by decide) rfl rfl (z_runS (As := [.int sd]) (rest := []) cx hw [] rfl rfl (c_X5_isSide l E sd  s.heap.size) mf_X5_isSide wd_139 ⟨Nat.le_of_ble_eq_true rfl, Nat.le_of_ble_eq_true rfl⟩ hl (Nat.le_of_ble_eq_true rfl) dX5_dieCount_1 ⟨Nat.le_of_ble_eq_true rfl, Nat.le_of_ble_eq_true rfl⟩) (fun r _ H locs hp hw => ?_)
  have hr_1 := hp
  have hr_1 : r = bI (inR sd 2) := hr_1
  subst hr_1
  have hw : ZW E A s [(h0, ob 5 [.ref hS, .ref hH, .ref hC, .ref hG, .ref hR]), (hS, ob 4 [.ref q, .int (nI n)]), (q, ia E 96 (nA F))] H locs := hw
  refine z_ifb_eq hx hb 18 dX5_dieCount_4 (by decide) (fun c_4 => ?_) (fun c_4 => ?_)
  · refine lv_iconst (v := (-1)) hx hb dX5_dieCount_18 (by decide) ?_
    exact ret ((-1)) () 19 ls H locs dX5_dieCount_19 (by simp [dcR, c_4]) (hw)
  · obtain ⟨t, ht, rfl⟩ := inR_get c_4 (by omega)
    refine lv_aload_n hx hb dX5_dieCount_7 rfl (lv_at hl 0 rfl) ?_
    refine z_get cx hw 0 0 rfl rfl inlX5 (by decide) wd_15 rfl dX5_dieCount_8 ?_
    refine lv_iload_n hx hb dX5_dieCount_11 rfl (lv_at hl 1 rfl) ?_
    refine z_ri0 (wr := [(h0, ob 5 [.ref hS, .ref hH, .ref hC, .ref hG, .ref hR])]) cx hw [1, 2] [0] rfl rfl (by decide) (by decide) rfl rfl (z_runVN (As := [.int (nI t)]) (rest := []) cx hw rfl rfl [1, 2] rfl rfl (c_X4_knownDies l E hS q F n t (by omega) (hF) (by omega) H.size) mf_X4_knownDies (nm_X5_90 hN) ⟨Nat.le_of_ble_eq_true rfl, Nat.le_of_ble_eq_true rfl⟩ hl (Nat.le_of_ble_eq_true rfl) dX5_dieCount_12 ⟨Nat.le_of_ble_eq_true rfl, Nat.le_of_ble_eq_true rfl⟩) (fun r _ H locs hp hw => ?_)
    have hr_12 := hp
    have hr_12 : r = nI (kn F t n 10) := hr_12
    subst hr_12
    have hw : ZW E A s [(h0, ob 5 [.ref hS, .ref hH, .ref hC, .ref hG, .ref hR]), (hS, ob 4 [.ref q, .int (nI n)]), (q, ia E 96 (nA F))] H locs := hw
    refine lv_goto (tgt := 19) hx hb dX5_dieCount_15 (by decide) ?_
    exact ret (nI (kn F t n 10)) () 19 ls H locs dX5_dieCount_19 (by simp only [dcR, c_4, if_true]; rw [cl_nI ht (by decide)]) (hw)

def rmX5_singletons : Room := { frames := 3, cells := 0, slots := 0, locals := 69 }
set_option maxHeartbeats 4000000 in
set_option maxRecDepth 100000 in
theorem c_X5_singletons (l : Launch) (E : ZE) (h0 hS hH hC hG hR : Nat) (q : Nat) (F : Nat → Nat) (n : Nat) (sd : Int32) (hn : n ≤ 24) (hF : ∀ j, F j < 10) : ZMi l yX5_singletons cX5_singletons 2 (some .int) rmX5_singletons E [.ref h0, .int sd] [(h0, ob 5 [.ref hS, .ref hH, .ref hC, .ref hG, .ref hR]), (hS, ob 4 [.ref q, .int (nI n)]), (q, ia E 96 (nA F))] (S := Unit) (fun r _ => r = sgR F n sd) (fun _ => [(h0, ob 5 [.ref hS, .ref hH, .ref hC, .ref hG, .ref hR]), (hS, ob 4 [.ref q, .int (nI n)]), (q, ia E 96 (nA F))]) := by
  refine z_mi (by decide) (Nat.le_of_ble_eq_true rfl) ?_
  intro p e s m args below meth c A Q ls cx hin hw hl ret
  obtain ⟨hx, hb, hml, hown, hts, hK, hN, hA, hlk⟩ := id cx
  have hl : lv_has ls 2 [(0, .ref h0), (1, .int sd)] := hl
  refine lv_iload_n hx hb dX5_singletons_0 rfl (lv_at hl 1 rfl) ?_
  refine z_ri0 (wr := [(h0, ob 5 [.ref hS, .ref hH, .ref hC, .ref hG, .ref hR]), (hS, ob 4 [.ref q, .int (nI n)]), (q, ia E 96 (nA F))]) cx hw [] [0, 1, 2] rfl rfl (by decide) (by decide) rfl rfl (z_runS (As := [.int sd]) (rest := []) cx hw [] rfl rfl (c_X5_isSide l E sd  s.heap.size) mf_X5_isSide wd_139 ⟨Nat.le_of_ble_eq_true rfl, Nat.le_of_ble_eq_true rfl⟩ hl (Nat.le_of_ble_eq_true rfl) dX5_singletons_1 ⟨Nat.le_of_ble_eq_true rfl, Nat.le_of_ble_eq_true rfl⟩) (fun r _ H locs hp hw => ?_)
  have hr_1 := hp
  have hr_1 : r = bI (inR sd 2) := hr_1
  subst hr_1
  have hw : ZW E A s [(h0, ob 5 [.ref hS, .ref hH, .ref hC, .ref hG, .ref hR]), (hS, ob 4 [.ref q, .int (nI n)]), (q, ia E 96 (nA F))] H locs := hw
  refine z_ifb_eq hx hb 18 dX5_singletons_4 (by decide) (fun c_4 => ?_) (fun c_4 => ?_)
  · refine lv_iconst (v := (-1)) hx hb dX5_singletons_18 (by decide) ?_
    exact ret ((-1)) () 19 ls H locs dX5_singletons_19 (by simp [sgR, c_4]) (hw)
  · obtain ⟨t, ht, rfl⟩ := inR_get c_4 (by omega)
    refine lv_aload_n hx hb dX5_singletons_7 rfl (lv_at hl 0 rfl) ?_
    refine z_get cx hw 0 0 rfl rfl inlX5 (by decide) wd_15 rfl dX5_singletons_8 ?_
    refine lv_iload_n hx hb dX5_singletons_11 rfl (lv_at hl 1 rfl) ?_
    refine z_ri0 (wr := [(h0, ob 5 [.ref hS, .ref hH, .ref hC, .ref hG, .ref hR])]) cx hw [1, 2] [0] rfl rfl (by decide) (by decide) rfl rfl (z_runVN (As := [.int (nI t)]) (rest := []) cx hw rfl rfl [1, 2] rfl rfl (c_X4_diesStruckOnce l E hS q F n t (by omega) (hF) (by omega) H.size) mf_X4_diesStruckOnce (nm_X5_144 hN) ⟨Nat.le_of_ble_eq_true rfl, Nat.le_of_ble_eq_true rfl⟩ hl (Nat.le_of_ble_eq_true rfl) dX5_singletons_12 ⟨Nat.le_of_ble_eq_true rfl, Nat.le_of_ble_eq_true rfl⟩) (fun r _ H locs hp hw => ?_)
    have hr_12 := hp
    have hr_12 : r = nI (sg F t n 10) := hr_12
    subst hr_12
    have hw : ZW E A s [(h0, ob 5 [.ref hS, .ref hH, .ref hC, .ref hG, .ref hR]), (hS, ob 4 [.ref q, .int (nI n)]), (q, ia E 96 (nA F))] H locs := hw
    refine lv_goto (tgt := 19) hx hb dX5_singletons_15 (by decide) ?_
    exact ret (nI (sg F t n 10)) () 19 ls H locs dX5_singletons_19 (by simp only [sgR, c_4, if_true]; rw [cl_nI ht (by decide)]) (hw)

def rmX5_frequency : Room := { frames := 2, cells := 0, slots := 0, locals := 46 }
set_option maxHeartbeats 4000000 in
set_option maxRecDepth 100000 in
theorem c_X5_frequency (l : Launch) (E : ZE) (h0 hS hH hC hG hR : Nat) (q : Nat) (F : Nat → Nat) (n : Nat) (sd x : Int32) (hn : n ≤ 24) (hF : ∀ j, F j < 10) : ZMi l yX5_frequency cX5_frequency 3 (some .int) rmX5_frequency E [.ref h0, .int sd, .int x] [(h0, ob 5 [.ref hS, .ref hH, .ref hC, .ref hG, .ref hR]), (hS, ob 4 [.ref q, .int (nI n)]), (q, ia E 96 (nA F))] (S := Unit) (fun r _ => r = frR F n sd x) (fun _ => [(h0, ob 5 [.ref hS, .ref hH, .ref hC, .ref hG, .ref hR]), (hS, ob 4 [.ref q, .int (nI n)]), (q, ia E 96 (nA F))]) := by
  refine z_mi (by decide) (Nat.le_of_ble_eq_true rfl) ?_
  intro p e s m args below meth c A Q ls cx hin hw hl ret
  obtain ⟨hx, hb, hml, hown, hts, hK, hN, hA, hlk⟩ := id cx
  have hl : lv_has ls 3 [(0, .ref h0), (1, .int sd), (2, .int x)] := hl
  refine lv_iload_n hx hb dX5_frequency_0 rfl (lv_at hl 1 rfl) ?_
  refine z_ri0 (wr := [(h0, ob 5 [.ref hS, .ref hH, .ref hC, .ref hG, .ref hR]), (hS, ob 4 [.ref q, .int (nI n)]), (q, ia E 96 (nA F))]) cx hw [] [0, 1, 2] rfl rfl (by decide) (by decide) rfl rfl (z_runS (As := [.int sd]) (rest := []) cx hw [] rfl rfl (c_X5_isSide l E sd  s.heap.size) mf_X5_isSide wd_139 ⟨Nat.le_of_ble_eq_true rfl, Nat.le_of_ble_eq_true rfl⟩ hl (Nat.le_of_ble_eq_true rfl) dX5_frequency_1 ⟨Nat.le_of_ble_eq_true rfl, Nat.le_of_ble_eq_true rfl⟩) (fun r _ H locs hp hw => ?_)
  have hr_1 := hp
  have hr_1 : r = bI (inR sd 2) := hr_1
  subst hr_1
  have hw : ZW E A s [(h0, ob 5 [.ref hS, .ref hH, .ref hC, .ref hG, .ref hR]), (hS, ob 4 [.ref q, .int (nI n)]), (q, ia E 96 (nA F))] H locs := hw
  refine z_ifb_eq hx hb 14 dX5_frequency_4 (by decide) (fun c_4 => ?_) (fun c_4 => ?_)
  · refine lv_iconst (v := (-1)) hx hb dX5_frequency_14 (by decide) ?_
    exact ret ((-1)) () 15 ls H locs dX5_frequency_15 (by simp [frR, c_4]) (hw)
  · obtain ⟨t, ht, rfl⟩ := inR_get c_4 (by omega)
    refine lv_iload_n hx hb dX5_frequency_7 rfl (lv_at hl 2 rfl) ?_
    refine z_ri0 (wr := [(h0, ob 5 [.ref hS, .ref hH, .ref hC, .ref hG, .ref hR]), (hS, ob 4 [.ref q, .int (nI n)]), (q, ia E 96 (nA F))]) cx hw [] [0, 1, 2] rfl rfl (by decide) (by decide) rfl rfl (z_runS (As := [.int x]) (rest := []) cx hw [] rfl rfl (c_X5_isDie l E x  H.size) mf_X5_isDie wd_85 ⟨Nat.le_of_ble_eq_true rfl, Nat.le_of_ble_eq_true rfl⟩ hl (Nat.le_of_ble_eq_true rfl) dX5_frequency_8 ⟨Nat.le_of_ble_eq_true rfl, Nat.le_of_ble_eq_true rfl⟩) (fun r _ H locs hp hw => ?_)
    have hr_8 := hp
    have hr_8 : r = bI (inR x 10) := hr_8
    subst hr_8
    have hw : ZW E A s [(h0, ob 5 [.ref hS, .ref hH, .ref hC, .ref hG, .ref hR]), (hS, ob 4 [.ref q, .int (nI n)]), (q, ia E 96 (nA F))] H locs := hw
    refine z_ifb_ne hx hb 16 dX5_frequency_11 (by decide) (fun c_11 => ?_) (fun c_11 => ?_)
    · obtain ⟨a2, ha, rfl⟩ := inR_get c_11 (by omega)
      refine lv_aload_n hx hb dX5_frequency_16 rfl (lv_at hl 0 rfl) ?_
      refine z_get cx hw 0 0 rfl rfl inlX5 (by decide) wd_15 rfl dX5_frequency_17 ?_
      refine lv_iload_n hx hb dX5_frequency_20 rfl (lv_at hl 1 rfl) ?_
      refine lv_iload_n hx hb dX5_frequency_21 rfl (lv_at hl 2 rfl) ?_
      refine z_ri0 (wr := [(h0, ob 5 [.ref hS, .ref hH, .ref hC, .ref hG, .ref hR])]) cx hw [1, 2] [0] rfl rfl (by decide) (by decide) rfl rfl (z_runVN (As := [.int (nI t), .int (nI a2)]) (rest := []) cx hw rfl rfl [1, 2] rfl rfl (c_X4_struckWith l E hS q F n t a2 (by omega) (hF) (by omega) (by omega) H.size) mf_X4_struckWith (nm_X5_80 hN) ⟨Nat.le_of_ble_eq_true rfl, Nat.le_of_ble_eq_true rfl⟩ hl (Nat.le_of_ble_eq_true rfl) dX5_frequency_22 ⟨Nat.le_of_ble_eq_true rfl, Nat.le_of_ble_eq_true rfl⟩) (fun r _ H locs hp hw => ?_)
      have hr_22 := hp
      have hr_22 : r = nI (cnt F t a2 n) := hr_22
      subst hr_22
      have hw : ZW E A s [(h0, ob 5 [.ref hS, .ref hH, .ref hC, .ref hG, .ref hR]), (hS, ob 4 [.ref q, .int (nI n)]), (q, ia E 96 (nA F))] H locs := hw
      exact ret (nI (cnt F t a2 n)) () 25 ls H locs dX5_frequency_25 (by simp only [frR, c_4, c_11, Bool.and_self, if_true]; rw [cl_nI ht (by decide), cl_nI ha (by decide)]) (hw)
    · refine lv_iconst (v := (-1)) hx hb dX5_frequency_14 (by decide) ?_
      exact ret ((-1)) () 15 ls H locs dX5_frequency_15 (by simp [frR, c_11]) (hw)

def rmX5_coverageEstimate : Room := { frames := 3, cells := 0, slots := 0, locals := 69 }
set_option maxHeartbeats 4000000 in
set_option maxRecDepth 100000 in
theorem c_X5_coverageEstimate (l : Launch) (E : ZE) (h0 hS hH hC hG hR : Nat) (q : Nat) (F : Nat → Nat) (n : Nat) (sd : Int32) (hn : n ≤ 24) (hF : ∀ j, F j < 10) : ZMi l yX5_coverageEstimate cX5_coverageEstimate 4 (some .int) rmX5_coverageEstimate E [.ref h0, .int sd] [(h0, ob 5 [.ref hS, .ref hH, .ref hC, .ref hG, .ref hR]), (hS, ob 4 [.ref q, .int (nI n)]), (q, ia E 96 (nA F))] (S := Unit) (fun r _ => r = cvR F n sd) (fun _ => [(h0, ob 5 [.ref hS, .ref hH, .ref hC, .ref hG, .ref hR]), (hS, ob 4 [.ref q, .int (nI n)]), (q, ia E 96 (nA F))]) := by
  refine z_mi (by decide) (Nat.le_of_ble_eq_true rfl) ?_
  intro p e s m args below meth c A Q ls cx hin hw hl ret
  obtain ⟨hx, hb, hml, hown, hts, hK, hN, hA, hlk⟩ := id cx
  have hl : lv_has ls 4 [(0, .ref h0), (1, .int sd)] := hl
  refine lv_iload_n hx hb dX5_coverageEstimate_0 rfl (lv_at hl 1 rfl) ?_
  refine z_ri0 (wr := [(h0, ob 5 [.ref hS, .ref hH, .ref hC, .ref hG, .ref hR]), (hS, ob 4 [.ref q, .int (nI n)]), (q, ia E 96 (nA F))]) cx hw [] [0, 1, 2] rfl rfl (by decide) (by decide) rfl rfl (z_runS (As := [.int sd]) (rest := []) cx hw [] rfl rfl (c_X5_isSide l E sd  s.heap.size) mf_X5_isSide wd_139 ⟨Nat.le_of_ble_eq_true rfl, Nat.le_of_ble_eq_true rfl⟩ hl (Nat.le_of_ble_eq_true rfl) dX5_coverageEstimate_1 ⟨Nat.le_of_ble_eq_true rfl, Nat.le_of_ble_eq_true rfl⟩) (fun r _ H locs hp hw => ?_)
  have hr_1 := hp
  have hr_1 : r = bI (inR sd 2) := hr_1
  subst hr_1
  have hw : ZW E A s [(h0, ob 5 [.ref hS, .ref hH, .ref hC, .ref hG, .ref hR]), (hS, ob 4 [.ref q, .int (nI n)]), (q, ia E 96 (nA F))] H locs := hw
  refine z_ifb_ne hx hb 9 dX5_coverageEstimate_4 (by decide) (fun c_4 => ?_) (fun c_4 => ?_)
  · obtain ⟨t, ht, rfl⟩ := inR_get c_4 (by omega)
    refine lv_aload_n hx hb dX5_coverageEstimate_9 rfl (lv_at hl 0 rfl) ?_
    refine z_get cx hw 0 0 rfl rfl inlX5 (by decide) wd_15 rfl dX5_coverageEstimate_10 ?_
    refine z_getN cx hw 1 1 rfl rfl inlX4 (by decide) (nf_X5_51 hN) rfl dX5_coverageEstimate_13 ?_
    refine lv_istore_n (lv' := [(2, .int (nI n)), (0, .ref h0), (1, .int (nI t))]) hx hb dX5_coverageEstimate_16 rfl hl (by decide) rfl (fun ls hl => ?_)
    refine lv_iload_n hx hb dX5_coverageEstimate_17 rfl (lv_at hl 0 rfl) ?_
    refine lv_aload_n hx hb dX5_coverageEstimate_18 rfl (lv_at hl 1 rfl) ?_
    refine z_get cx hw 0 0 rfl rfl inlX5 (by decide) wd_15 rfl dX5_coverageEstimate_19 ?_
    refine lv_iload_n hx hb dX5_coverageEstimate_22 rfl (lv_at hl 2 rfl) ?_
    refine z_ri0 (wr := [(h0, ob 5 [.ref hS, .ref hH, .ref hC, .ref hG, .ref hR])]) cx hw [1, 2] [0] rfl rfl (by decide) (by decide) rfl rfl (z_runVN (As := [.int (nI t)]) (rest := [.int (nI n)]) cx hw rfl rfl [1, 2] rfl rfl (c_X4_diesStruckOnce l E hS q F n t (by omega) (hF) (by omega) H.size) mf_X4_diesStruckOnce (nm_X5_144 hN) ⟨Nat.le_of_ble_eq_true rfl, Nat.le_of_ble_eq_true rfl⟩ hl (Nat.le_of_ble_eq_true rfl) dX5_coverageEstimate_23 ⟨Nat.le_of_ble_eq_true rfl, Nat.le_of_ble_eq_true rfl⟩) (fun r _ H locs hp hw => ?_)
    have hr_23 := hp
    have hr_23 : r = nI (sg F t n 10) := hr_23
    subst hr_23
    have hw : ZW E A s [(h0, ob 5 [.ref hS, .ref hH, .ref hC, .ref hG, .ref hR]), (hS, ob 4 [.ref q, .int (nI n)]), (q, ia E 96 (nA F))] H locs := hw
    have hg_ := sg_n hF t n
    refine z_isub hx hb (n - (sg F t n 10)) (by omega) rfl dX5_coverageEstimate_26 ?_
    refine lv_istore_n (lv' := [(3, .int (nI (n - (sg F t n 10)))), (2, .int (nI n)), (0, .ref h0), (1, .int (nI t))]) hx hb dX5_coverageEstimate_27 rfl hl (by decide) rfl (fun ls hl => ?_)
    refine lv_iload_n hx hb dX5_coverageEstimate_28 rfl (lv_at hl 0 rfl) ?_
    refine z_if_le hx hb (by omega) 51 dX5_coverageEstimate_29 (by decide) (fun c_29 => ?_) (fun c_29 => ?_)
    · refine lv_bipush (v := (-3)) hx hb dX5_coverageEstimate_51 (by decide) ?_
      exact ret ((-3)) () 53 ls H locs dX5_coverageEstimate_53 (by simp only [cvR, c_4, if_true]; rw [cl_nI ht (by decide), if_pos c_29]) (hw)
    · refine lv_sipush (v := nI 1000) hx hb dX5_coverageEstimate_32 (by decide) ?_
      refine lv_iload_n hx hb dX5_coverageEstimate_35 rfl (lv_at hl 1 rfl) ?_
      refine z_imul hx hb (1000 * n) rfl dX5_coverageEstimate_36 ?_
      refine lv_aload_n hx hb dX5_coverageEstimate_37 rfl (lv_at hl 2 rfl) ?_
      refine z_get cx hw 0 0 rfl rfl inlX5 (by decide) wd_15 rfl dX5_coverageEstimate_38 ?_
      refine lv_iload_n hx hb dX5_coverageEstimate_41 rfl (lv_at hl 3 rfl) ?_
      refine z_ri0 (wr := [(h0, ob 5 [.ref hS, .ref hH, .ref hC, .ref hG, .ref hR])]) cx hw [1, 2] [0] rfl rfl (by decide) (by decide) rfl rfl (z_runVN (As := [.int (nI t)]) (rest := [.int (nI (1000 * n))]) cx hw rfl rfl [1, 2] rfl rfl (c_X4_knownDies l E hS q F n t (by omega) (hF) (by omega) H.size) mf_X4_knownDies (nm_X5_90 hN) ⟨Nat.le_of_ble_eq_true rfl, Nat.le_of_ble_eq_true rfl⟩ hl (Nat.le_of_ble_eq_true rfl) dX5_coverageEstimate_42 ⟨Nat.le_of_ble_eq_true rfl, Nat.le_of_ble_eq_true rfl⟩) (fun r _ H locs hp hw => ?_)
      have hr_42 := hp
      have hr_42 : r = nI (kn F t n 10) := hr_42
      subst hr_42
      have hw : ZW E A s [(h0, ob 5 [.ref hS, .ref hH, .ref hC, .ref hG, .ref hR]), (hS, ob 4 [.ref q, .int (nI n)]), (q, ia E 96 (nA F))] H locs := hw
      refine z_imul hx hb ((1000 * n) * (kn F t n 10)) rfl dX5_coverageEstimate_45 ?_
      refine lv_iload_n hx hb dX5_coverageEstimate_46 rfl (lv_at hl 0 rfl) ?_
      have hm_ : 1000 * n * kn F t n 10 ≤ 1000 * 24 * 10 := Nat.mul_le_mul (Nat.mul_le_mul (Nat.le_refl _) hn) (kn_le F t n 10)
      refine z_idiv hx hb (((1000 * n) * (kn F t n 10)) / (n - (sg F t n 10))) (by omega) (by omega) (by omega) rfl dX5_coverageEstimate_47 ?_
      refine lv_goto (tgt := 53) hx hb dX5_coverageEstimate_48 (by decide) ?_
      exact ret (nI (((1000 * n) * (kn F t n 10)) / (n - (sg F t n 10)))) () 53 ls H locs dX5_coverageEstimate_53 (by simp only [cvR, c_4, if_true]; rw [cl_nI ht (by decide), if_neg (by omega)]) (hw)
  · refine lv_iconst (v := (-1)) hx hb dX5_coverageEstimate_7 (by decide) ?_
    exact ret ((-1)) () 8 ls H locs dX5_coverageEstimate_8 (by simp [cvR, c_4]) (hw)

def rmX5_divisorOfFrequencyEstimate : Room := { frames := 0, cells := 0, slots := 0, locals := 0 }
set_option maxHeartbeats 4000000 in
set_option maxRecDepth 100000 in
theorem c_X5_divisorOfFrequencyEstimate (l : Launch) (E : ZE) (n d : Nat) (hdn : d ≤ n) (hn : n ≤ 24) : ZMi l yX5_divisorOfFrequencyEstimate cX5_divisorOfFrequencyEstimate 2 (some .int) rmX5_divisorOfFrequencyEstimate E [.int (nI n), .int (nI d)] [] (S := Unit) (fun r _ => r = nI (dvf n d)) (fun _ => []) := by
  refine z_mi (by decide) (Nat.le_of_ble_eq_true rfl) ?_
  intro p e s m args below meth c A Q ls cx hin hw hl ret
  obtain ⟨hx, hb, hml, hown, hts, hK, hN, hA, hlk⟩ := id cx
  have hl : lv_has ls 2 [(0, .int (nI n)), (1, .int (nI d))] := hl
  refine lv_iload_n hx hb dX5_divisorOfFrequencyEstimate_0 rfl (lv_at hl 0 rfl) ?_
  refine lv_iconst (v := nI 2) hx hb dX5_divisorOfFrequencyEstimate_1 (by decide) ?_
  refine lv_iload_n hx hb dX5_divisorOfFrequencyEstimate_2 rfl (lv_at hl 1 rfl) ?_
  refine z_imul hx hb (2 * d) rfl dX5_divisorOfFrequencyEstimate_3 ?_
  refine z_icmp_ge hx hb (by omega) (by omega) 19 dX5_divisorOfFrequencyEstimate_4 (by decide) (fun c_4 => ?_) (fun c_4 => ?_)
  · refine lv_iload_n hx hb dX5_divisorOfFrequencyEstimate_19 rfl (lv_at hl 0 rfl) ?_
    refine lv_iconst (v := nI 3) hx hb dX5_divisorOfFrequencyEstimate_20 (by decide) ?_
    refine lv_iload_n hx hb dX5_divisorOfFrequencyEstimate_21 rfl (lv_at hl 1 rfl) ?_
    refine z_imul hx hb (3 * d) rfl dX5_divisorOfFrequencyEstimate_22 ?_
    refine z_icmp_ge hx hb (by omega) (by omega) 38 dX5_divisorOfFrequencyEstimate_23 (by decide) (fun c_23 => ?_) (fun c_23 => ?_)
    · refine lv_sipush (v := nI 1016) hx hb dX5_divisorOfFrequencyEstimate_38 (by decide) ?_
      refine lv_iload_n hx hb dX5_divisorOfFrequencyEstimate_41 rfl (lv_at hl 0 rfl) ?_
      refine z_imul hx hb (1016 * n) rfl dX5_divisorOfFrequencyEstimate_42 ?_
      refine lv_sipush (v := nI 197) hx hb dX5_divisorOfFrequencyEstimate_43 (by decide) ?_
      refine lv_iload_n hx hb dX5_divisorOfFrequencyEstimate_46 rfl (lv_at hl 1 rfl) ?_
      refine z_imul hx hb (197 * d) rfl dX5_divisorOfFrequencyEstimate_47 ?_
      refine z_isub hx hb ((1016 * n) - (197 * d)) (by omega) rfl dX5_divisorOfFrequencyEstimate_48 ?_
      exact ret (nI ((1016 * n) - (197 * d))) () 49 ls s.heap [] dX5_divisorOfFrequencyEstimate_49 (congrArg nI (by rw [dvf, if_neg (by omega), if_neg (by omega)])) (hw)
    · refine lv_sipush (v := nI 1069) hx hb dX5_divisorOfFrequencyEstimate_26 (by decide) ?_
      refine lv_iload_n hx hb dX5_divisorOfFrequencyEstimate_29 rfl (lv_at hl 0 rfl) ?_
      refine z_imul hx hb (1069 * n) rfl dX5_divisorOfFrequencyEstimate_30 ?_
      refine lv_sipush (v := nI 843) hx hb dX5_divisorOfFrequencyEstimate_31 (by decide) ?_
      refine lv_iload_n hx hb dX5_divisorOfFrequencyEstimate_34 rfl (lv_at hl 1 rfl) ?_
      refine z_imul hx hb (843 * d) rfl dX5_divisorOfFrequencyEstimate_35 ?_
      refine z_isub hx hb ((1069 * n) - (843 * d)) (by omega) rfl dX5_divisorOfFrequencyEstimate_36 ?_
      exact ret (nI ((1069 * n) - (843 * d))) () 37 ls s.heap [] dX5_divisorOfFrequencyEstimate_37 (congrArg nI (by rw [dvf, if_neg (by omega), if_pos c_23])) (hw)
  · refine lv_sipush (v := nI 1124) hx hb dX5_divisorOfFrequencyEstimate_7 (by decide) ?_
    refine lv_iload_n hx hb dX5_divisorOfFrequencyEstimate_10 rfl (lv_at hl 0 rfl) ?_
    refine z_imul hx hb (1124 * n) rfl dX5_divisorOfFrequencyEstimate_11 ?_
    refine lv_sipush (v := nI 1016) hx hb dX5_divisorOfFrequencyEstimate_12 (by decide) ?_
    refine lv_iload_n hx hb dX5_divisorOfFrequencyEstimate_15 rfl (lv_at hl 1 rfl) ?_
    refine z_imul hx hb (1016 * d) rfl dX5_divisorOfFrequencyEstimate_16 ?_
    refine z_isub hx hb ((1124 * n) - (1016 * d)) (by omega) rfl dX5_divisorOfFrequencyEstimate_17 ?_
    exact ret (nI ((1124 * n) - (1016 * d))) () 18 ls s.heap [] dX5_divisorOfFrequencyEstimate_18 (congrArg nI (by rw [dvf, if_pos c_4])) (hw)

def rmX5_frequencyEstimate : Room := { frames := 3, cells := 0, slots := 0, locals := 69 }
set_option maxHeartbeats 4000000 in
set_option maxRecDepth 100000 in
theorem c_X5_frequencyEstimate (l : Launch) (E : ZE) (h0 hS hH hC hG hR : Nat) (q : Nat) (F : Nat → Nat) (n : Nat) (sd : Int32) (hn : n ≤ 24) (hF : ∀ j, F j < 10) : ZMi l yX5_frequencyEstimate cX5_frequencyEstimate 5 (some .int) rmX5_frequencyEstimate E [.ref h0, .int sd] [(h0, ob 5 [.ref hS, .ref hH, .ref hC, .ref hG, .ref hR]), (hS, ob 4 [.ref q, .int (nI n)]), (q, ia E 96 (nA F))] (S := Unit) (fun r _ => r = feR F n sd) (fun _ => [(h0, ob 5 [.ref hS, .ref hH, .ref hC, .ref hG, .ref hR]), (hS, ob 4 [.ref q, .int (nI n)]), (q, ia E 96 (nA F))]) := by
  refine z_mi (by decide) (Nat.le_of_ble_eq_true rfl) ?_
  intro p e s m args below meth c A Q ls cx hin hw hl ret
  obtain ⟨hx, hb, hml, hown, hts, hK, hN, hA, hlk⟩ := id cx
  have hl : lv_has ls 5 [(0, .ref h0), (1, .int sd)] := hl
  refine lv_iload_n hx hb dX5_frequencyEstimate_0 rfl (lv_at hl 1 rfl) ?_
  refine z_ri0 (wr := [(h0, ob 5 [.ref hS, .ref hH, .ref hC, .ref hG, .ref hR]), (hS, ob 4 [.ref q, .int (nI n)]), (q, ia E 96 (nA F))]) cx hw [] [0, 1, 2] rfl rfl (by decide) (by decide) rfl rfl (z_runS (As := [.int sd]) (rest := []) cx hw [] rfl rfl (c_X5_isSide l E sd  s.heap.size) mf_X5_isSide wd_139 ⟨Nat.le_of_ble_eq_true rfl, Nat.le_of_ble_eq_true rfl⟩ hl (Nat.le_of_ble_eq_true rfl) dX5_frequencyEstimate_1 ⟨Nat.le_of_ble_eq_true rfl, Nat.le_of_ble_eq_true rfl⟩) (fun r _ H locs hp hw => ?_)
  have hr_1 := hp
  have hr_1 : r = bI (inR sd 2) := hr_1
  subst hr_1
  have hw : ZW E A s [(h0, ob 5 [.ref hS, .ref hH, .ref hC, .ref hG, .ref hR]), (hS, ob 4 [.ref q, .int (nI n)]), (q, ia E 96 (nA F))] H locs := hw
  refine z_ifb_ne hx hb 9 dX5_frequencyEstimate_4 (by decide) (fun c_4 => ?_) (fun c_4 => ?_)
  · obtain ⟨t, ht, rfl⟩ := inR_get c_4 (by omega)
    refine lv_aload_n hx hb dX5_frequencyEstimate_9 rfl (lv_at hl 0 rfl) ?_
    refine z_get cx hw 0 0 rfl rfl inlX5 (by decide) wd_15 rfl dX5_frequencyEstimate_10 ?_
    refine z_getN cx hw 1 1 rfl rfl inlX4 (by decide) (nf_X5_51 hN) rfl dX5_frequencyEstimate_13 ?_
    refine lv_istore_n (lv' := [(2, .int (nI n)), (0, .ref h0), (1, .int (nI t))]) hx hb dX5_frequencyEstimate_16 rfl hl (by decide) rfl (fun ls hl => ?_)
    refine lv_aload_n hx hb dX5_frequencyEstimate_17 rfl (lv_at hl 1 rfl) ?_
    refine z_get cx hw 0 0 rfl rfl inlX5 (by decide) wd_15 rfl dX5_frequencyEstimate_18 ?_
    refine lv_iload_n hx hb dX5_frequencyEstimate_21 rfl (lv_at hl 2 rfl) ?_
    refine z_ri0 (wr := [(h0, ob 5 [.ref hS, .ref hH, .ref hC, .ref hG, .ref hR])]) cx hw [1, 2] [0] rfl rfl (by decide) (by decide) rfl rfl (z_runVN (As := [.int (nI t)]) (rest := []) cx hw rfl rfl [1, 2] rfl rfl (c_X4_knownDies l E hS q F n t (by omega) (hF) (by omega) H.size) mf_X4_knownDies (nm_X5_90 hN) ⟨Nat.le_of_ble_eq_true rfl, Nat.le_of_ble_eq_true rfl⟩ hl (Nat.le_of_ble_eq_true rfl) dX5_frequencyEstimate_22 ⟨Nat.le_of_ble_eq_true rfl, Nat.le_of_ble_eq_true rfl⟩) (fun r _ H locs hp hw => ?_)
    have hr_22 := hp
    have hr_22 : r = nI (kn F t n 10) := hr_22
    subst hr_22
    have hw : ZW E A s [(h0, ob 5 [.ref hS, .ref hH, .ref hC, .ref hG, .ref hR]), (hS, ob 4 [.ref q, .int (nI n)]), (q, ia E 96 (nA F))] H locs := hw
    refine lv_istore_n (lv' := [(3, .int (nI (kn F t n 10))), (2, .int (nI n)), (0, .ref h0), (1, .int (nI t))]) hx hb dX5_frequencyEstimate_25 rfl hl (by decide) rfl (fun ls hl => ?_)
    have hk_ := kn_n hF t n
    refine lv_iload_n hx hb dX5_frequencyEstimate_26 rfl (lv_at hl 1 rfl) ?_
    refine lv_iconst (v := nI 2) hx hb dX5_frequencyEstimate_27 (by decide) ?_
    refine z_icmp_lt hx hb (by omega) (by decide) 36 dX5_frequencyEstimate_28 (by decide) (fun c_28 => ?_) (fun c_28 => ?_)
    · refine lv_bipush (v := (-3)) hx hb dX5_frequencyEstimate_36 (by decide) ?_
      exact ret ((-3)) () 38 ls H locs dX5_frequencyEstimate_38 (by simp only [feR, c_4, if_true]; rw [cl_nI ht (by decide), if_pos (by omega)]) (hw)
    · refine lv_iload_n hx hb dX5_frequencyEstimate_31 rfl (lv_at hl 1 rfl) ?_
      refine lv_iload_n hx hb dX5_frequencyEstimate_32 rfl (lv_at hl 0 rfl) ?_
      refine z_icmp_ne hx hb (by omega) (by omega) 39 dX5_frequencyEstimate_33 (by decide) (fun c_33 => ?_) (fun c_33 => ?_)
      · refine lv_iload_n hx hb dX5_frequencyEstimate_39 rfl (lv_at hl 1 rfl) ?_
        refine lv_iload_n hx hb dX5_frequencyEstimate_40 rfl (lv_at hl 0 rfl) ?_
        refine z_ri0 (wr := [(h0, ob 5 [.ref hS, .ref hH, .ref hC, .ref hG, .ref hR]), (hS, ob 4 [.ref q, .int (nI n)]), (q, ia E 96 (nA F))]) cx hw [] [0, 1, 2] rfl rfl (by decide) (by decide) rfl rfl (z_runS (As := [.int (nI n), .int (nI (kn F t n 10))]) (rest := []) cx hw [] rfl rfl (c_X5_divisorOfFrequencyEstimate l E n (kn F t n 10) (by omega) (by omega) H.size) mf_X5_divisorOfFrequencyEstimate wd_475 ⟨Nat.le_of_ble_eq_true rfl, Nat.le_of_ble_eq_true rfl⟩ hl (Nat.le_of_ble_eq_true rfl) dX5_frequencyEstimate_41 ⟨Nat.le_of_ble_eq_true rfl, Nat.le_of_ble_eq_true rfl⟩) (fun r _ H locs hp hw => ?_)
        have hr_41 := hp
        have hr_41 : r = nI (dvf n (kn F t n 10)) := hr_41
        subst hr_41
        have hw : ZW E A s [(h0, ob 5 [.ref hS, .ref hH, .ref hC, .ref hG, .ref hR]), (hS, ob 4 [.ref q, .int (nI n)]), (q, ia E 96 (nA F))] H locs := hw
        refine lv_istore (lv' := [(4, .int (nI (dvf n (kn F t n 10)))), (3, .int (nI (kn F t n 10))), (2, .int (nI n)), (0, .ref h0), (1, .int (nI t))]) hx hb dX5_frequencyEstimate_44 hl (by decide) rfl (fun ls hl => ?_)
        have hd_ := dvf_pos hk_ c_33 hn
        refine lv_iload hx hb dX5_frequencyEstimate_46 (lv_at hl 0 rfl) ?_
        refine z_if_le hx hb (by omega) 68 dX5_frequencyEstimate_48 (by decide) (fun c_48 => False.elim (by omega)) (fun c_48 => ?_)
        refine lv_iload_n hx hb dX5_frequencyEstimate_51 rfl (lv_at hl 2 rfl) ?_
        refine lv_iload_n hx hb dX5_frequencyEstimate_52 rfl (lv_at hl 1 rfl) ?_
        refine z_imul hx hb (n * (kn F t n 10)) rfl dX5_frequencyEstimate_53 ?_
        refine lv_sipush (v := nI 1000) hx hb dX5_frequencyEstimate_54 (by decide) ?_
        refine z_imul hx hb ((n * (kn F t n 10)) * 1000) rfl dX5_frequencyEstimate_57 ?_
        refine lv_sipush (v := nI 1000) hx hb dX5_frequencyEstimate_58 (by decide) ?_
        refine z_imul hx hb (((n * (kn F t n 10)) * 1000) * 1000) rfl dX5_frequencyEstimate_61 ?_
        have hm_ : n * kn F t n 10 ≤ 24 * 10 := Nat.mul_le_mul hn (kn_le F t n 10)
        refine lv_iload hx hb dX5_frequencyEstimate_62 (lv_at hl 0 rfl) ?_
        refine z_idiv hx hb ((((n * (kn F t n 10)) * 1000) * 1000) / (dvf n (kn F t n 10))) (by omega) (by omega) (by omega) rfl dX5_frequencyEstimate_64 ?_
        refine lv_goto (tgt := 70) hx hb dX5_frequencyEstimate_65 (by decide) ?_
        exact ret (nI ((((n * (kn F t n 10)) * 1000) * 1000) / (dvf n (kn F t n 10)))) () 70 ls H locs dX5_frequencyEstimate_70 (by simp only [feR, c_4, if_true]; rw [cl_nI ht (by decide), if_neg (by omega)]) (hw)
      · refine lv_bipush (v := (-3)) hx hb dX5_frequencyEstimate_36 (by decide) ?_
        exact ret ((-3)) () 38 ls H locs dX5_frequencyEstimate_38 (by simp only [feR, c_4, if_true]; rw [cl_nI ht (by decide), if_pos (by omega)]) (hw)
  · refine lv_iconst (v := (-1)) hx hb dX5_frequencyEstimate_7 (by decide) ?_
    exact ret ((-1)) () 8 ls H locs dX5_frequencyEstimate_8 (by simp [feR, c_4]) (hw)

def rmX5_undo : Room := { frames := 2, cells := 0, slots := 0, locals := 81 }
set_option maxHeartbeats 4000000 in
set_option maxRecDepth 100000 in
theorem c_X5_undo (l : Launch) (E : ZE) (h0 hS hH hC hG hR : Nat) (q : Nat) (F : Nat → Nat) (n : Nat) (qc qn : Nat) (G C : Nat → Nat) (sv nx : Nat) (hnx : nx < 5) (hsv : sv ≤ 5) : ZMi l yX5_undo cX5_undo 1 (some .int) rmX5_undo E [.ref h0] [(h0, ob 5 [.ref hS, .ref hH, .ref hC, .ref hG, .ref hR]), (hS, ob 4 [.ref q, .int (nI n)]), (q, ia E 96 (nA F)), (hH, ob 2 [.ref qc, .ref qn, .int (nI sv), .int (nI nx)]), (qc, ia E 480 (nA G)), (qn, ia E 5 (nA C))] (S := Unit) (fun r _ => r = undR sv) (fun _ => [(h0, ob 5 [.ref hS, .ref hH, .ref hC, .ref hG, .ref hR]), (hS, ob 4 [.ref q, .int (nI ((undS (F, n, G, C, sv, nx) ).2.1))]), (q, ia E 96 (nA ((undS (F, n, G, C, sv, nx) ).1))), (hH, ob 2 [.ref qc, .ref qn, .int (nI ((undS (F, n, G, C, sv, nx) ).2.2.2.2.1)), .int (nI ((undS (F, n, G, C, sv, nx) ).2.2.2.2.2))]), (qc, ia E 480 (nA ((undS (F, n, G, C, sv, nx) ).2.2.1))), (qn, ia E 5 (nA ((undS (F, n, G, C, sv, nx) ).2.2.2.1)))]) := by
  refine z_mi (by decide) (Nat.le_of_ble_eq_true rfl) ?_
  intro p e s m args below meth c A Q ls cx hin hw hl ret
  obtain ⟨hx, hb, hml, hown, hts, hK, hN, hA, hlk⟩ := id cx
  have hl : lv_has ls 1 [(0, .ref h0)] := hl
  refine lv_aload_n hx hb dX5_undo_0 rfl (lv_at hl 0 rfl) ?_
  refine z_get cx hw 0 1 rfl rfl inlX5 (by decide) wd_19 rfl dX5_undo_1 ?_
  refine z_getN cx hw 3 2 rfl rfl inlX2 (by decide) (nf_X5_150 hN) rfl dX5_undo_4 ?_
  refine z_if_ne hx hb (by omega) 13 dX5_undo_7 (by decide) (fun c_7 => ?_) (fun c_7 => ?_)
  · refine lv_aload_n hx hb dX5_undo_13 rfl (lv_at hl 0 rfl) ?_
    refine z_get cx hw 0 1 rfl rfl inlX5 (by decide) wd_19 rfl dX5_undo_14 ?_
    refine lv_aload_n hx hb dX5_undo_17 rfl (lv_at hl 0 rfl) ?_
    refine z_get cx hw 0 0 rfl rfl inlX5 (by decide) wd_15 rfl dX5_undo_18 ?_
    refine z_rv0 (wr := [(h0, ob 5 [.ref hS, .ref hH, .ref hC, .ref hG, .ref hR])]) cx hw [3, 4, 5, 1, 2] [0] rfl rfl (by decide) (by decide) rfl rfl (z_runVN (As := [.ref hS]) (rest := []) cx hw rfl rfl [3, 4, 5, 1, 2] rfl rfl (c_X2_restore l E hH qc qn G C sv nx hS q F n (by omega) (by omega) s.heap.size) mf_X2_restore (nm_X5_153 hN) ⟨Nat.le_of_ble_eq_true rfl, Nat.le_of_ble_eq_true rfl⟩ hl (Nat.le_of_ble_eq_true rfl) dX5_undo_21 ⟨Nat.le_of_ble_eq_true rfl, Nat.le_of_ble_eq_true rfl⟩) (fun _ H locs hp hw => ?_)
    have hw : ZW E A s [(h0, ob 5 [.ref hS, .ref hH, .ref hC, .ref hG, .ref hR]), (hH, ob 2 [.ref qc, .ref qn, .int (nI (sv - 1)), .int (nI (prvN nx))]), (qc, ia E 480 (nA G)), (qn, ia E 5 (nA C)), (hS, ob 4 [.ref q, .int (nI (C (prvN nx)))]), (q, ia E 96 (nA (fun j => G (96 * prvN nx + j))))] H locs := hw
    refine lv_aload_n hx hb dX5_undo_24 rfl (lv_at hl 0 rfl) ?_
    refine z_get cx hw 0 1 rfl rfl inlX5 (by decide) wd_19 rfl dX5_undo_25 ?_
    refine z_getN cx hw 1 2 rfl rfl inlX2 (by decide) (nf_X5_150 hN) rfl dX5_undo_28 ?_
    have hs_ : undS (F, n, G, C, sv, nx) = (fun j => G (96 * prvN nx + j), C (prvN nx), G, C, sv - 1, prvN nx) := if_neg (by dsimp only; omega)
    have e_r31_0 : (C (prvN nx)) = ((undS (F, n, G, C, sv, nx) ).2.1) := by rw [hs_]
    have e_r31_1 : (fun j => G (96 * prvN nx + j)) = ((undS (F, n, G, C, sv, nx) ).1) := by rw [hs_]
    have e_r31_2 : (sv - 1) = ((undS (F, n, G, C, sv, nx) ).2.2.2.2.1) := by rw [hs_]
    have e_r31_3 : (prvN nx) = ((undS (F, n, G, C, sv, nx) ).2.2.2.2.2) := by rw [hs_]
    have e_r31_4 : G = ((undS (F, n, G, C, sv, nx) ).2.2.1) := by rw [hs_]
    have e_r31_5 : C = ((undS (F, n, G, C, sv, nx) ).2.2.2.1) := by rw [hs_]
    exact ret (nI (sv - 1)) () 31 ls H locs dX5_undo_31 (by rw [undR, if_neg (by omega)]) ((hw.perm [0, 4, 5, 1, 2, 3] rfl (by decide)).cast (zc rfl (zc (congrArg (fun z => ((hS, ob 4 [.ref q, .int (nI z)]) : Nat × va_E)) e_r31_0) (zc (congrArg (fun z => ((q, ia E 96 (nA z)) : Nat × va_E)) e_r31_1) (zc ((congrArg (fun z => ((hH, ob 2 [.ref qc, .ref qn, .int (nI z), .int (nI (prvN nx))]) : Nat × va_E)) e_r31_2).trans (congrArg (fun z => ((hH, ob 2 [.ref qc, .ref qn, .int (nI ((undS (F, n, G, C, sv, nx) ).2.2.2.2.1)), .int (nI z)]) : Nat × va_E)) e_r31_3)) (zc (congrArg (fun z => ((qc, ia E 480 (nA z)) : Nat × va_E)) e_r31_4) (zc (congrArg (fun z => ((qn, ia E 5 (nA z)) : Nat × va_E)) e_r31_5) rfl)))))))
  · refine lv_bipush (v := (-3)) hx hb dX5_undo_10 (by decide) ?_
    have hs_ : undS (F, n, G, C, sv, nx) = (F, n, G, C, sv, nx) := if_pos c_7
    have e_r12_0 : n = ((undS (F, n, G, C, sv, nx) ).2.1) := by rw [hs_]
    have e_r12_1 : F = ((undS (F, n, G, C, sv, nx) ).1) := by rw [hs_]
    have e_r12_2 : sv = ((undS (F, n, G, C, sv, nx) ).2.2.2.2.1) := by rw [hs_]
    have e_r12_3 : nx = ((undS (F, n, G, C, sv, nx) ).2.2.2.2.2) := by rw [hs_]
    have e_r12_4 : G = ((undS (F, n, G, C, sv, nx) ).2.2.1) := by rw [hs_]
    have e_r12_5 : C = ((undS (F, n, G, C, sv, nx) ).2.2.2.1) := by rw [hs_]
    exact ret ((-3)) () 12 ls s.heap [] dX5_undo_12 (by rw [undR, if_pos c_7]) ((hw).cast (zc rfl (zc (congrArg (fun z => ((hS, ob 4 [.ref q, .int (nI z)]) : Nat × va_E)) e_r12_0) (zc (congrArg (fun z => ((q, ia E 96 (nA z)) : Nat × va_E)) e_r12_1) (zc ((congrArg (fun z => ((hH, ob 2 [.ref qc, .ref qn, .int (nI z), .int (nI nx)]) : Nat × va_E)) e_r12_2).trans (congrArg (fun z => ((hH, ob 2 [.ref qc, .ref qn, .int (nI ((undS (F, n, G, C, sv, nx) ).2.2.2.2.1)), .int (nI z)]) : Nat × va_E)) e_r12_3)) (zc (congrArg (fun z => ((qc, ia E 480 (nA z)) : Nat × va_E)) e_r12_4) (zc (congrArg (fun z => ((qn, ia E 5 (nA z)) : Nat × va_E)) e_r12_5) rfl)))))))

def rmX5_errorOfPlace : Room := { frames := 1, cells := 0, slots := 0, locals := 21 }
set_option maxHeartbeats 4000000 in
set_option maxRecDepth 100000 in
theorem c_X5_errorOfPlace (l : Launch) (E : ZE) (h0 hS hH hC hG hR : Nat) (qp qd d0 d1 ql l0 l1 qg g0 g1 : Nat) (P : Nat → Int32) (D0 D1 L0 L1 G0 G1 : Nat → Nat) (mm : Nat) (x : Int32) (hmm : mm ≤ 24) : ZMi l yX5_errorOfPlace cX5_errorOfPlace 2 (some .int) rmX5_errorOfPlace E [.ref h0, .int x] [(h0, ob 5 [.ref hS, .ref hH, .ref hC, .ref hG, .ref hR]), (hC, ob 1 [.ref qp, .ref qd, .ref ql, .ref qg, .int (nI mm)]), (qp, ia E 100 P), (qd, ra E d0 d1), (d0, ia E 24 (nA D0)), (d1, ia E 24 (nA D1)), (ql, ra E l0 l1), (l0, ia E 24 (nA L0)), (l1, ia E 24 (nA L1)), (qg, ra E g0 g1), (g0, ia E 24 (nA G0)), (g1, ia E 24 (nA G1))] (S := Unit) (fun r _ => r = erP x mm) (fun _ => [(h0, ob 5 [.ref hS, .ref hH, .ref hC, .ref hG, .ref hR]), (hC, ob 1 [.ref qp, .ref qd, .ref ql, .ref qg, .int (nI mm)]), (qp, ia E 100 P), (qd, ra E d0 d1), (d0, ia E 24 (nA D0)), (d1, ia E 24 (nA D1)), (ql, ra E l0 l1), (l0, ia E 24 (nA L0)), (l1, ia E 24 (nA L1)), (qg, ra E g0 g1), (g0, ia E 24 (nA G0)), (g1, ia E 24 (nA G1))]) := by
  refine z_mi (by decide) (Nat.le_of_ble_eq_true rfl) ?_
  intro p e s m args below meth c A Q ls cx hin hw hl ret
  obtain ⟨hx, hb, hml, hown, hts, hK, hN, hA, hlk⟩ := id cx
  have hl : lv_has ls 2 [(0, .ref h0), (1, .int x)] := hl
  refine lv_iload_n hx hb dX5_errorOfPlace_0 rfl (lv_at hl 1 rfl) ?_
  refine lv_if_ge (tgt := 6) hx hb dX5_errorOfPlace_1 (by decide) (fun c_1 => ?_) (fun c_1 => ?_)
  · refine lv_aload_n hx hb dX5_errorOfPlace_6 rfl (lv_at hl 0 rfl) ?_
    refine z_get cx hw 0 2 rfl rfl inlX5 (by decide) wd_23 rfl dX5_errorOfPlace_7 ?_
    refine lv_iload_n hx hb dX5_errorOfPlace_10 rfl (lv_at hl 1 rfl) ?_
    refine z_ri0 (wr := [(h0, ob 5 [.ref hS, .ref hH, .ref hC, .ref hG, .ref hR])]) cx hw [1, 2, 3, 4, 5, 6, 7, 8, 9, 10, 11] [0] rfl rfl (by decide) (by decide) rfl rfl (z_runVN (As := [.int x]) (rest := []) cx hw rfl rfl [1, 2, 3, 4, 5, 6, 7, 8, 9, 10, 11] rfl rfl (c_X1_has l E hC qp qd d0 d1 ql l0 l1 qg g0 g1 P D0 D1 L0 L1 G0 G1 mm x (by omega) s.heap.size) mf_X1_has (nm_X5_128 hN) ⟨Nat.le_of_ble_eq_true rfl, Nat.le_of_ble_eq_true rfl⟩ hl (Nat.le_of_ble_eq_true rfl) dX5_errorOfPlace_11 ⟨Nat.le_of_ble_eq_true rfl, Nat.le_of_ble_eq_true rfl⟩) (fun r _ H locs hp hw => ?_)
    have hr_11 := hp
    have hr_11 : r = bI (inR x mm) := hr_11
    subst hr_11
    have hw : ZW E A s [(h0, ob 5 [.ref hS, .ref hH, .ref hC, .ref hG, .ref hR]), (hC, ob 1 [.ref qp, .ref qd, .ref ql, .ref qg, .int (nI mm)]), (qp, ia E 100 P), (qd, ra E d0 d1), (d0, ia E 24 (nA D0)), (d1, ia E 24 (nA D1)), (ql, ra E l0 l1), (l0, ia E 24 (nA L0)), (l1, ia E 24 (nA L1)), (qg, ra E g0 g1), (g0, ia E 24 (nA G0)), (g1, ia E 24 (nA G1))] H locs := hw
    refine z_ifb_eq hx hb 21 dX5_errorOfPlace_14 (by decide) (fun c_14 => ?_) (fun c_14 => ?_)
    · refine lv_bipush (v := (-3)) hx hb dX5_errorOfPlace_21 (by decide) ?_
      exact ret ((-3)) () 23 ls H locs dX5_errorOfPlace_23 (by rw [erP, if_neg (Int32.not_lt.mpr c_1), if_neg (by rw [c_14]; decide)]) (hw)
    · refine lv_iconst (v := nI 0) hx hb dX5_errorOfPlace_17 (by decide) ?_
      refine lv_goto (tgt := 23) hx hb dX5_errorOfPlace_18 (by decide) ?_
      exact ret (nI 0) () 23 ls H locs dX5_errorOfPlace_23 (by rw [erP, if_neg (Int32.not_lt.mpr c_1), if_pos c_14]) (hw)
  · refine lv_iconst (v := (-1)) hx hb dX5_errorOfPlace_4 (by decide) ?_
    exact ret ((-1)) () 5 ls s.heap [] dX5_errorOfPlace_5 (by rw [erP, if_pos (Int32.not_le.mp c_1)]) (hw)

def rmX5_coupleCount : Room := { frames := 4, cells := 0, slots := 0, locals := 88 }
set_option maxHeartbeats 4000000 in
set_option maxRecDepth 100000 in
theorem c_X5_coupleCount (l : Launch) (E : ZE) (h0 hS hH hC hG hR : Nat) (q : Nat) (F : Nat → Nat) (n : Nat) (qp qd d0 d1 ql l0 l1 qg g0 g1 : Nat) (P : Nat → Int32) (D0 D1 L0 L1 G0 G1 : Nat → Nat) (mm : Nat) (hn : n ≤ 24) (hF : ∀ j, F j < 10) (hB : Bd6 D0 D1 L0 L1 G0 G1) : ZMi l yX5_coupleCount cX5_coupleCount 1 (some .int) rmX5_coupleCount E [.ref h0] [(h0, ob 5 [.ref hS, .ref hH, .ref hC, .ref hG, .ref hR]), (hS, ob 4 [.ref q, .int (nI n)]), (q, ia E 96 (nA F)), (hC, ob 1 [.ref qp, .ref qd, .ref ql, .ref qg, .int (nI mm)]), (qp, ia E 100 P), (qd, ra E d0 d1), (d0, ia E 24 (nA D0)), (d1, ia E 24 (nA D1)), (ql, ra E l0 l1), (l0, ia E 24 (nA L0)), (l1, ia E 24 (nA L1)), (qg, ra E g0 g1), (g0, ia E 24 (nA G0)), (g1, ia E 24 (nA G1))] (S := (Nat → Nat) × (Nat → Nat) × (Nat → Nat) × (Nat → Nat) × (Nat → Nat) × (Nat → Nat)) (fun r u => r = nI (rk (hasP F n) 100) ∧ Cpl F n n u.1 u.2.1 u.2.2.1 u.2.2.2.1 u.2.2.2.2.1 u.2.2.2.2.2 ∧ Bd6 u.1 u.2.1 u.2.2.1 u.2.2.2.1 u.2.2.2.2.1 u.2.2.2.2.2) (fun u => [(h0, ob 5 [.ref hS, .ref hH, .ref hC, .ref hG, .ref hR]), (hS, ob 4 [.ref q, .int (nI n)]), (q, ia E 96 (nA F)), (hC, ob 1 [.ref qp, .ref qd, .ref ql, .ref qg, .int (nI (rk (hasP F n) 100))]), (qp, ia E 100 (numb (hasP F n) 100)), (qd, ra E d0 d1), (d0, ia E 24 (nA u.1)), (d1, ia E 24 (nA u.2.1)), (ql, ra E l0 l1), (l0, ia E 24 (nA u.2.2.1)), (l1, ia E 24 (nA u.2.2.2.1)), (qg, ra E g0 g1), (g0, ia E 24 (nA u.2.2.2.2.1)), (g1, ia E 24 (nA u.2.2.2.2.2))]) := by
  refine z_mi (by decide) (Nat.le_of_ble_eq_true rfl) ?_
  intro p e s m args below meth c A Q ls cx hin hw hl ret
  obtain ⟨hx, hb, hml, hown, hts, hK, hN, hA, hlk⟩ := id cx
  have hl : lv_has ls 1 [(0, .ref h0)] := hl
  refine lv_aload_n hx hb dX5_coupleCount_0 rfl (lv_at hl 0 rfl) ?_
  refine z_get cx hw 0 2 rfl rfl inlX5 (by decide) wd_23 rfl dX5_coupleCount_1 ?_
  refine lv_aload_n hx hb dX5_coupleCount_4 rfl (lv_at hl 0 rfl) ?_
  refine z_get cx hw 0 0 rfl rfl inlX5 (by decide) wd_15 rfl dX5_coupleCount_5 ?_
  refine z_rv0 (wr := [(h0, ob 5 [.ref hS, .ref hH, .ref hC, .ref hG, .ref hR])]) cx hw [3, 4, 5, 6, 7, 8, 9, 10, 11, 12, 13, 1, 2] [0] rfl rfl (by decide) (by decide) rfl rfl (z_runVN (As := [.ref hS]) (rest := []) cx hw rfl rfl [3, 4, 5, 6, 7, 8, 9, 10, 11, 12, 13, 1, 2] rfl rfl (c_X1_list l E hC qp qd d0 d1 ql l0 l1 qg g0 g1 P D0 D1 L0 L1 G0 G1 mm hS q F n (by omega) (hF) (hB) s.heap.size) mf_X1_list (nm_X5_101 hN) ⟨Nat.le_of_ble_eq_true rfl, Nat.le_of_ble_eq_true rfl⟩ hl (Nat.le_of_ble_eq_true rfl) dX5_coupleCount_8 ⟨Nat.le_of_ble_eq_true rfl, Nat.le_of_ble_eq_true rfl⟩) (fun u H locs hp hw => ?_)
  obtain ⟨D0, D1, L0, L1, G0, G1⟩ := u
  have hp_8 : Cpl F n n D0 D1 L0 L1 G0 G1 ∧ Bd6 D0 D1 L0 L1 G0 G1 := hp
  have hw : ZW E A s [(h0, ob 5 [.ref hS, .ref hH, .ref hC, .ref hG, .ref hR]), (hC, ob 1 [.ref qp, .ref qd, .ref ql, .ref qg, .int (nI (rk (hasP F n) 100))]), (qp, ia E 100 (numb (hasP F n) 100)), (qd, ra E d0 d1), (d0, ia E 24 (nA D0)), (d1, ia E 24 (nA D1)), (ql, ra E l0 l1), (l0, ia E 24 (nA L0)), (l1, ia E 24 (nA L1)), (qg, ra E g0 g1), (g0, ia E 24 (nA G0)), (g1, ia E 24 (nA G1)), (hS, ob 4 [.ref q, .int (nI n)]), (q, ia E 96 (nA F))] H locs := hw
  refine lv_aload_n hx hb dX5_coupleCount_11 rfl (lv_at hl 0 rfl) ?_
  refine z_get cx hw 0 2 rfl rfl inlX5 (by decide) wd_23 rfl dX5_coupleCount_12 ?_
  refine z_getN cx hw 1 4 rfl rfl inlX1 (by decide) (nf_X5_104 hN) rfl dX5_coupleCount_15 ?_
  exact ret (nI (rk (hasP F n) 100)) (D0, D1, L0, L1, G0, G1) 18 ls H locs dX5_coupleCount_18 (⟨rfl, hp_8⟩) (hw.perm [0, 12, 13, 1, 2, 3, 4, 5, 6, 7, 8, 9, 10, 11] rfl (by decide))

def rmX5_coupleAt : Room := { frames := 4, cells := 0, slots := 0, locals := 88 }
set_option maxHeartbeats 4000000 in
set_option maxRecDepth 100000 in
theorem c_X5_coupleAt (l : Launch) (E : ZE) (h0 hS hH hC hG hR : Nat) (q : Nat) (F : Nat → Nat) (n : Nat) (qp qd d0 d1 ql l0 l1 qg g0 g1 : Nat) (P : Nat → Int32) (D0 D1 L0 L1 G0 G1 : Nat → Nat) (mm : Nat) (x : Int32) (hn : n ≤ 24) (hF : ∀ j, F j < 10) (hB : Bd6 D0 D1 L0 L1 G0 G1) : ZMi l yX5_coupleAt cX5_coupleAt 3 (some .int) rmX5_coupleAt E [.ref h0, .int x] [(h0, ob 5 [.ref hS, .ref hH, .ref hC, .ref hG, .ref hR]), (hS, ob 4 [.ref q, .int (nI n)]), (q, ia E 96 (nA F)), (hC, ob 1 [.ref qp, .ref qd, .ref ql, .ref qg, .int (nI mm)]), (qp, ia E 100 P), (qd, ra E d0 d1), (d0, ia E 24 (nA D0)), (d1, ia E 24 (nA D1)), (ql, ra E l0 l1), (l0, ia E 24 (nA L0)), (l1, ia E 24 (nA L1)), (qg, ra E g0 g1), (g0, ia E 24 (nA G0)), (g1, ia E 24 (nA G1))] (S := (Nat → Nat) × (Nat → Nat) × (Nat → Nat) × (Nat → Nat) × (Nat → Nat) × (Nat → Nat)) (fun r u => r = catR x (rk (hasP F n) 100) u.1 u.2.1 ∧ Cpl F n n u.1 u.2.1 u.2.2.1 u.2.2.2.1 u.2.2.2.2.1 u.2.2.2.2.2 ∧ Bd6 u.1 u.2.1 u.2.2.1 u.2.2.2.1 u.2.2.2.2.1 u.2.2.2.2.2) (fun u => [(h0, ob 5 [.ref hS, .ref hH, .ref hC, .ref hG, .ref hR]), (hS, ob 4 [.ref q, .int (nI n)]), (q, ia E 96 (nA F)), (hC, ob 1 [.ref qp, .ref qd, .ref ql, .ref qg, .int (nI (rk (hasP F n) 100))]), (qp, ia E 100 (numb (hasP F n) 100)), (qd, ra E d0 d1), (d0, ia E 24 (nA u.1)), (d1, ia E 24 (nA u.2.1)), (ql, ra E l0 l1), (l0, ia E 24 (nA u.2.2.1)), (l1, ia E 24 (nA u.2.2.2.1)), (qg, ra E g0 g1), (g0, ia E 24 (nA u.2.2.2.2.1)), (g1, ia E 24 (nA u.2.2.2.2.2))]) := by
  refine z_mi (by decide) (Nat.le_of_ble_eq_true rfl) ?_
  intro p e s m args below meth c A Q ls cx hin hw hl ret
  obtain ⟨hx, hb, hml, hown, hts, hK, hN, hA, hlk⟩ := id cx
  have hl : lv_has ls 3 [(0, .ref h0), (1, .int x)] := hl
  refine lv_aload_n hx hb dX5_coupleAt_0 rfl (lv_at hl 0 rfl) ?_
  refine z_get cx hw 0 2 rfl rfl inlX5 (by decide) wd_23 rfl dX5_coupleAt_1 ?_
  refine lv_aload_n hx hb dX5_coupleAt_4 rfl (lv_at hl 0 rfl) ?_
  refine z_get cx hw 0 0 rfl rfl inlX5 (by decide) wd_15 rfl dX5_coupleAt_5 ?_
  refine z_rv0 (wr := [(h0, ob 5 [.ref hS, .ref hH, .ref hC, .ref hG, .ref hR])]) cx hw [3, 4, 5, 6, 7, 8, 9, 10, 11, 12, 13, 1, 2] [0] rfl rfl (by decide) (by decide) rfl rfl (z_runVN (As := [.ref hS]) (rest := []) cx hw rfl rfl [3, 4, 5, 6, 7, 8, 9, 10, 11, 12, 13, 1, 2] rfl rfl (c_X1_list l E hC qp qd d0 d1 ql l0 l1 qg g0 g1 P D0 D1 L0 L1 G0 G1 mm hS q F n (by omega) (hF) (hB) s.heap.size) mf_X1_list (nm_X5_101 hN) ⟨Nat.le_of_ble_eq_true rfl, Nat.le_of_ble_eq_true rfl⟩ hl (Nat.le_of_ble_eq_true rfl) dX5_coupleAt_8 ⟨Nat.le_of_ble_eq_true rfl, Nat.le_of_ble_eq_true rfl⟩) (fun u H locs hp hw => ?_)
  obtain ⟨D0, D1, L0, L1, G0, G1⟩ := u
  have hp_8 : Cpl F n n D0 D1 L0 L1 G0 G1 ∧ Bd6 D0 D1 L0 L1 G0 G1 := hp
  have hw : ZW E A s [(h0, ob 5 [.ref hS, .ref hH, .ref hC, .ref hG, .ref hR]), (hC, ob 1 [.ref qp, .ref qd, .ref ql, .ref qg, .int (nI (rk (hasP F n) 100))]), (qp, ia E 100 (numb (hasP F n) 100)), (qd, ra E d0 d1), (d0, ia E 24 (nA D0)), (d1, ia E 24 (nA D1)), (ql, ra E l0 l1), (l0, ia E 24 (nA L0)), (l1, ia E 24 (nA L1)), (qg, ra E g0 g1), (g0, ia E 24 (nA G0)), (g1, ia E 24 (nA G1)), (hS, ob 4 [.ref q, .int (nI n)]), (q, ia E 96 (nA F))] H locs := hw
  have hmm_ := rk_hasP F n 100
  refine lv_aload_n hx hb dX5_coupleAt_11 rfl (lv_at hl 0 rfl) ?_
  refine lv_iload_n hx hb dX5_coupleAt_12 rfl (lv_at hl 1 rfl) ?_
  refine z_ri0 (wr := [(hS, ob 4 [.ref q, .int (nI n)]), (q, ia E 96 (nA F))]) cx hw [0, 1, 2, 3, 4, 5, 6, 7, 8, 9, 10, 11] [12, 13] rfl rfl (by decide) (by decide) rfl rfl (z_runV (As := [.int x]) (rest := []) cx hw rfl rfl [0, 1, 2, 3, 4, 5, 6, 7, 8, 9, 10, 11] rfl rfl (c_X5_errorOfPlace l E h0 hS hH hC hG hR qp qd d0 d1 ql l0 l1 qg g0 g1 (numb (hasP F n) 100) D0 D1 L0 L1 G0 G1 (rk (hasP F n) 100) x (by omega) H.size) mf_X5_errorOfPlace wd_296 ⟨Nat.le_of_ble_eq_true rfl, Nat.le_of_ble_eq_true rfl⟩ hl (Nat.le_of_ble_eq_true rfl) dX5_coupleAt_13 ⟨Nat.le_of_ble_eq_true rfl, Nat.le_of_ble_eq_true rfl⟩) (fun r _ H locs hp hw => ?_)
  have hr_13 := hp
  have hr_13 : r = erP x (rk (hasP F n) 100) := hr_13
  subst hr_13
  have hw : ZW E A s [(hS, ob 4 [.ref q, .int (nI n)]), (q, ia E 96 (nA F)), (h0, ob 5 [.ref hS, .ref hH, .ref hC, .ref hG, .ref hR]), (hC, ob 1 [.ref qp, .ref qd, .ref ql, .ref qg, .int (nI (rk (hasP F n) 100))]), (qp, ia E 100 (numb (hasP F n) 100)), (qd, ra E d0 d1), (d0, ia E 24 (nA D0)), (d1, ia E 24 (nA D1)), (ql, ra E l0 l1), (l0, ia E 24 (nA L0)), (l1, ia E 24 (nA L1)), (qg, ra E g0 g1), (g0, ia E 24 (nA G0)), (g1, ia E 24 (nA G1))] H locs := hw
  refine lv_istore_n (lv' := [(2, .int (erP x (rk (hasP F n) 100))), (0, .ref h0), (1, .int x)]) hx hb dX5_coupleAt_16 rfl hl (by decide) rfl (fun ls hl => ?_)
  refine lv_iload_n hx hb dX5_coupleAt_17 rfl (lv_at hl 0 rfl) ?_
  refine lv_if_eq (tgt := 23) hx hb dX5_coupleAt_18 (by decide) (fun c_18 => ?_) (fun c_18 => ?_)
  · have hI_ : inR x (rk (hasP F n) 100) = true := by
      by_cases g_ : inR x (rk (hasP F n) 100) = true
      · exact g_
      · exact absurd c_18 (by rw [erP]; by_cases h_ : x < 0 <;> simp [h_, g_])
    obtain ⟨k, hk, rfl⟩ := inR_get hI_ (by omega)
    refine lv_bipush (v := nI 10) hx hb dX5_coupleAt_23 (by decide) ?_
    refine lv_aload_n hx hb dX5_coupleAt_25 rfl (lv_at hl 1 rfl) ?_
    refine z_get cx hw 2 2 rfl rfl inlX5 (by decide) wd_23 rfl dX5_coupleAt_26 ?_
    refine z_getN cx hw 3 1 rfl rfl inlX1 (by decide) (nf_X5_108 hN) rfl dX5_coupleAt_29 ?_
    refine lv_iconst (v := nI 0) hx hb dX5_coupleAt_32 (by decide) ?_
    refine z_aald0 cx hw 5 rfl dX5_coupleAt_33 ?_
    refine lv_iload_n hx hb dX5_coupleAt_34 rfl (lv_at hl 2 rfl) ?_
    refine z_aldN cx hw 6 rfl (k) rfl (by omega) (by decide) dX5_coupleAt_35 ?_
    refine z_imul hx hb (10 * (D0 k)) rfl dX5_coupleAt_36 ?_
    refine lv_aload_n hx hb dX5_coupleAt_37 rfl (lv_at hl 1 rfl) ?_
    refine z_get cx hw 2 2 rfl rfl inlX5 (by decide) wd_23 rfl dX5_coupleAt_38 ?_
    refine z_getN cx hw 3 1 rfl rfl inlX1 (by decide) (nf_X5_108 hN) rfl dX5_coupleAt_41 ?_
    refine lv_iconst (v := nI 1) hx hb dX5_coupleAt_44 (by decide) ?_
    refine z_aald1 cx hw 5 rfl dX5_coupleAt_45 ?_
    refine lv_iload_n hx hb dX5_coupleAt_46 rfl (lv_at hl 2 rfl) ?_
    refine z_aldN cx hw 7 rfl (k) rfl (by omega) (by decide) dX5_coupleAt_47 ?_
    refine z_iadd hx hb ((10 * (D0 k)) + (D1 k)) rfl dX5_coupleAt_48 ?_
    exact ret (nI ((10 * (D0 k)) + (D1 k))) (D0, D1, L0, L1, G0, G1) 49 ls H locs dX5_coupleAt_49 (⟨by rw [catR, if_pos hI_, cl_nI hk (by omega)], hp_8⟩) (hw.perm [2, 0, 1, 3, 4, 5, 6, 7, 8, 9, 10, 11, 12, 13] rfl (by decide))
  · refine lv_iload_n hx hb dX5_coupleAt_21 rfl (lv_at hl 0 rfl) ?_
    have hE_ : inR x (rk (hasP F n) 100) = false := by
      cases g_ : inR x (rk (hasP F n) 100) with
      | false => rfl
      | true => exact absurd (by rw [erP, if_neg (fun q => by rw [inR_neg q] at g_; cases g_), if_pos g_]; rfl) c_18
    exact ret (erP x (rk (hasP F n) 100)) (D0, D1, L0, L1, G0, G1) 22 ls H locs dX5_coupleAt_22 (⟨by simp only [catR, erP, hE_]; by_cases h_ : x < 0 <;> simp [h_], hp_8⟩) (hw.perm [2, 0, 1, 3, 4, 5, 6, 7, 8, 9, 10, 11, 12, 13] rfl (by decide))

def rmX5_componentCount : Room := { frames := 4, cells := 0, slots := 0, locals := 88 }
set_option maxHeartbeats 4000000 in
set_option maxRecDepth 100000 in
theorem c_X5_componentCount (l : Launch) (E : ZE) (h0 hS hH hC hG hR : Nat) (q : Nat) (F : Nat → Nat) (n : Nat) (qp qd d0 d1 ql l0 l1 qg g0 g1 : Nat) (P : Nat → Int32) (D0 D1 L0 L1 G0 G1 : Nat → Nat) (mm : Nat) (qC : Nat) (Cm : Nat → Int32) (gd : Nat) (gc : Int32) (hn : n ≤ 24) (hF : ∀ j, F j < 10) (hB : Bd6 D0 D1 L0 L1 G0 G1) : ZMi l yX5_componentCount cX5_componentCount 1 (some .int) rmX5_componentCount E [.ref h0] [(h0, ob 5 [.ref hS, .ref hH, .ref hC, .ref hG, .ref hR]), (hS, ob 4 [.ref q, .int (nI n)]), (q, ia E 96 (nA F)), (hC, ob 1 [.ref qp, .ref qd, .ref ql, .ref qg, .int (nI mm)]), (qp, ia E 100 P), (qd, ra E d0 d1), (d0, ia E 24 (nA D0)), (d1, ia E 24 (nA D1)), (ql, ra E l0 l1), (l0, ia E 24 (nA L0)), (l1, ia E 24 (nA L1)), (qg, ra E g0 g1), (g0, ia E 24 (nA G0)), (g1, ia E 24 (nA G1)), (hG, ob 3 [.ref qC, .int (nI gd), .int gc]), (qC, ia E 20 Cm)] (S := (Nat → Nat) × (Nat → Nat) × (Nat → Nat) × (Nat → Nat) × (Nat → Nat) × (Nat → Nat)) (fun r u => r = ck u.1 u.2.1 (-1) (rk (hasP F n) 100) (rk (hasP F n) 100) ∧ Cpl F n n u.1 u.2.1 u.2.2.1 u.2.2.2.1 u.2.2.2.2.1 u.2.2.2.2.2 ∧ Bd6 u.1 u.2.1 u.2.2.1 u.2.2.2.1 u.2.2.2.2.1 u.2.2.2.2.2) (fun u => [(h0, ob 5 [.ref hS, .ref hH, .ref hC, .ref hG, .ref hR]), (hS, ob 4 [.ref q, .int (nI n)]), (q, ia E 96 (nA F)), (hC, ob 1 [.ref qp, .ref qd, .ref ql, .ref qg, .int (nI (rk (hasP F n) 100))]), (qp, ia E 100 (numb (hasP F n) 100)), (qd, ra E d0 d1), (d0, ia E 24 (nA u.1)), (d1, ia E 24 (nA u.2.1)), (ql, ra E l0 l1), (l0, ia E 24 (nA u.2.2.1)), (l1, ia E 24 (nA u.2.2.2.1)), (qg, ra E g0 g1), (g0, ia E 24 (nA u.2.2.2.2.1)), (g1, ia E 24 (nA u.2.2.2.2.2)), (hG, ob 3 [.ref qC, .int (nI (rk (kv u.1 u.2.1 (rk (hasP F n) 100)) 20)), .int (ck u.1 u.2.1 (-1) (rk (hasP F n) 100) (rk (hasP F n) 100))]), (qC, ia E 20 (cn u.1 u.2.1 (-1) (rk (hasP F n) 100) (rk (hasP F n) 100)))]) := by
  refine z_mi (by decide) (Nat.le_of_ble_eq_true rfl) ?_
  intro p e s m args below meth c A Q ls cx hin hw hl ret
  obtain ⟨hx, hb, hml, hown, hts, hK, hN, hA, hlk⟩ := id cx
  have hl : lv_has ls 1 [(0, .ref h0)] := hl
  refine lv_aload_n hx hb dX5_componentCount_0 rfl (lv_at hl 0 rfl) ?_
  refine z_get cx hw 0 2 rfl rfl inlX5 (by decide) wd_23 rfl dX5_componentCount_1 ?_
  refine lv_aload_n hx hb dX5_componentCount_4 rfl (lv_at hl 0 rfl) ?_
  refine z_get cx hw 0 0 rfl rfl inlX5 (by decide) wd_15 rfl dX5_componentCount_5 ?_
  refine z_rv0 (wr := [(h0, ob 5 [.ref hS, .ref hH, .ref hC, .ref hG, .ref hR]), (hG, ob 3 [.ref qC, .int (nI gd), .int gc]), (qC, ia E 20 Cm)]) cx hw [3, 4, 5, 6, 7, 8, 9, 10, 11, 12, 13, 1, 2] [0, 14, 15] rfl rfl (by decide) (by decide) rfl rfl (z_runVN (As := [.ref hS]) (rest := []) cx hw rfl rfl [3, 4, 5, 6, 7, 8, 9, 10, 11, 12, 13, 1, 2] rfl rfl (c_X1_list l E hC qp qd d0 d1 ql l0 l1 qg g0 g1 P D0 D1 L0 L1 G0 G1 mm hS q F n (by omega) (hF) (hB) s.heap.size) mf_X1_list (nm_X5_101 hN) ⟨Nat.le_of_ble_eq_true rfl, Nat.le_of_ble_eq_true rfl⟩ hl (Nat.le_of_ble_eq_true rfl) dX5_componentCount_8 ⟨Nat.le_of_ble_eq_true rfl, Nat.le_of_ble_eq_true rfl⟩) (fun u H locs hp hw => ?_)
  obtain ⟨D0, D1, L0, L1, G0, G1⟩ := u
  have hp_8 : Cpl F n n D0 D1 L0 L1 G0 G1 ∧ Bd6 D0 D1 L0 L1 G0 G1 := hp
  have hw : ZW E A s [(h0, ob 5 [.ref hS, .ref hH, .ref hC, .ref hG, .ref hR]), (hG, ob 3 [.ref qC, .int (nI gd), .int gc]), (qC, ia E 20 Cm), (hC, ob 1 [.ref qp, .ref qd, .ref ql, .ref qg, .int (nI (rk (hasP F n) 100))]), (qp, ia E 100 (numb (hasP F n) 100)), (qd, ra E d0 d1), (d0, ia E 24 (nA D0)), (d1, ia E 24 (nA D1)), (ql, ra E l0 l1), (l0, ia E 24 (nA L0)), (l1, ia E 24 (nA L1)), (qg, ra E g0 g1), (g0, ia E 24 (nA G0)), (g1, ia E 24 (nA G1)), (hS, ob 4 [.ref q, .int (nI n)]), (q, ia E 96 (nA F))] H locs := hw
  have hmm_ := rk_hasP F n 100
  refine lv_aload_n hx hb dX5_componentCount_11 rfl (lv_at hl 0 rfl) ?_
  refine z_get cx hw 0 3 rfl rfl inlX5 (by decide) wd_27 rfl dX5_componentCount_12 ?_
  refine lv_aload_n hx hb dX5_componentCount_15 rfl (lv_at hl 0 rfl) ?_
  refine z_get cx hw 0 2 rfl rfl inlX5 (by decide) wd_23 rfl dX5_componentCount_16 ?_
  refine lv_iconst (v := (-1)) hx hb dX5_componentCount_19 (by decide) ?_
  refine z_rv0 (wr := [(h0, ob 5 [.ref hS, .ref hH, .ref hC, .ref hG, .ref hR]), (qp, ia E 100 (numb (hasP F n) 100)), (ql, ra E l0 l1), (l0, ia E 24 (nA L0)), (l1, ia E 24 (nA L1)), (qg, ra E g0 g1), (g0, ia E 24 (nA G0)), (g1, ia E 24 (nA G1)), (hS, ob 4 [.ref q, .int (nI n)]), (q, ia E 96 (nA F))]) cx hw [1, 2, 3, 5, 6, 7] [0, 4, 8, 9, 10, 11, 12, 13, 14, 15] rfl rfl (by decide) (by decide) rfl rfl (z_runVN (As := [.ref hC, .int ((-1))]) (rest := []) cx hw rfl rfl [1, 2, 3, 5, 6, 7] rfl rfl (c_X3_connect l E hG qC Cm gd gc hC qp qd d0 d1 ql qg D0 D1 (rk (hasP F n) 100) (-1) (by omega) (hp_8.2.1) (hp_8.2.2.1) H.size) mf_X3_connect (nm_X5_111 hN) ⟨Nat.le_of_ble_eq_true rfl, Nat.le_of_ble_eq_true rfl⟩ hl (Nat.le_of_ble_eq_true rfl) dX5_componentCount_20 ⟨Nat.le_of_ble_eq_true rfl, Nat.le_of_ble_eq_true rfl⟩) (fun _ H locs hp hw => ?_)
  have hw : ZW E A s [(h0, ob 5 [.ref hS, .ref hH, .ref hC, .ref hG, .ref hR]), (qp, ia E 100 (numb (hasP F n) 100)), (ql, ra E l0 l1), (l0, ia E 24 (nA L0)), (l1, ia E 24 (nA L1)), (qg, ra E g0 g1), (g0, ia E 24 (nA G0)), (g1, ia E 24 (nA G1)), (hS, ob 4 [.ref q, .int (nI n)]), (q, ia E 96 (nA F)), (hG, ob 3 [.ref qC, .int (nI (rk (kv D0 D1 (rk (hasP F n) 100)) 20)), .int (ck D0 D1 (-1) (rk (hasP F n) 100) (rk (hasP F n) 100))]), (qC, ia E 20 (cn D0 D1 (-1) (rk (hasP F n) 100) (rk (hasP F n) 100))), (hC, ob 1 [.ref qp, .ref qd, .ref ql, .ref qg, .int (nI (rk (hasP F n) 100))]), (qd, ra E d0 d1), (d0, ia E 24 (nA D0)), (d1, ia E 24 (nA D1))] H locs := hw
  refine lv_aload_n hx hb dX5_componentCount_23 rfl (lv_at hl 0 rfl) ?_
  refine z_get cx hw 0 3 rfl rfl inlX5 (by decide) wd_27 rfl dX5_componentCount_24 ?_
  refine z_getN cx hw 10 2 rfl rfl inlX3 (by decide) (nf_X5_115 hN) rfl dX5_componentCount_27 ?_
  exact ret (ck D0 D1 (-1) (rk (hasP F n) 100) (rk (hasP F n) 100)) (D0, D1, L0, L1, G0, G1) 30 ls H locs dX5_componentCount_30 (⟨rfl, hp_8⟩) (hw.perm [0, 8, 9, 12, 1, 13, 14, 15, 2, 3, 4, 5, 6, 7, 10, 11] rfl (by decide))

def rmX5_componentSize : Room := { frames := 4, cells := 0, slots := 0, locals := 88 }
set_option maxHeartbeats 4000000 in
set_option maxRecDepth 100000 in
theorem c_X5_componentSize (l : Launch) (E : ZE) (h0 hS hH hC hG hR : Nat) (q : Nat) (F : Nat → Nat) (n : Nat) (qp qd d0 d1 ql l0 l1 qg g0 g1 : Nat) (P : Nat → Int32) (D0 D1 L0 L1 G0 G1 : Nat → Nat) (mm : Nat) (qC : Nat) (Cm : Nat → Int32) (gd : Nat) (gc : Int32) (sd x : Int32) (hn : n ≤ 24) (hF : ∀ j, F j < 10) (hB : Bd6 D0 D1 L0 L1 G0 G1) : ZMi l yX5_componentSize cX5_componentSize 4 (some .int) rmX5_componentSize E [.ref h0, .int sd, .int x] [(h0, ob 5 [.ref hS, .ref hH, .ref hC, .ref hG, .ref hR]), (hS, ob 4 [.ref q, .int (nI n)]), (q, ia E 96 (nA F)), (hC, ob 1 [.ref qp, .ref qd, .ref ql, .ref qg, .int (nI mm)]), (qp, ia E 100 P), (qd, ra E d0 d1), (d0, ia E 24 (nA D0)), (d1, ia E 24 (nA D1)), (ql, ra E l0 l1), (l0, ia E 24 (nA L0)), (l1, ia E 24 (nA L1)), (qg, ra E g0 g1), (g0, ia E 24 (nA G0)), (g1, ia E 24 (nA G1)), (hG, ob 3 [.ref qC, .int (nI gd), .int gc]), (qC, ia E 20 Cm)] (S := (Nat → Nat) × (Nat → Nat) × (Nat → Nat) × (Nat → Nat) × (Nat → Nat) × (Nat → Nat) × (Nat → Int32) × Nat × (Nat → Int32) × Nat × Int32) (fun r u => ((inR sd 2 && inR x 10) = false ∧ r = -1 ∨ (inR sd 2 && inR x 10) = true ∧ Cpl F n n u.1 u.2.1 u.2.2.1 u.2.2.2.1 u.2.2.2.2.1 u.2.2.2.2.2.1 ∧ r = csR u.1 u.2.1 (rk (hasP F n) 100) sd x) ∧ Bd6 u.1 u.2.1 u.2.2.1 u.2.2.2.1 u.2.2.2.2.1 u.2.2.2.2.2.1) (fun u => [(h0, ob 5 [.ref hS, .ref hH, .ref hC, .ref hG, .ref hR]), (hS, ob 4 [.ref q, .int (nI n)]), (q, ia E 96 (nA F)), (hC, ob 1 [.ref qp, .ref qd, .ref ql, .ref qg, .int (nI u.2.2.2.2.2.2.2.1)]), (qp, ia E 100 u.2.2.2.2.2.2.1), (qd, ra E d0 d1), (d0, ia E 24 (nA u.1)), (d1, ia E 24 (nA u.2.1)), (ql, ra E l0 l1), (l0, ia E 24 (nA u.2.2.1)), (l1, ia E 24 (nA u.2.2.2.1)), (qg, ra E g0 g1), (g0, ia E 24 (nA u.2.2.2.2.1)), (g1, ia E 24 (nA u.2.2.2.2.2.1)), (hG, ob 3 [.ref qC, .int (nI u.2.2.2.2.2.2.2.2.2.1), .int (u.2.2.2.2.2.2.2.2.2.2)]), (qC, ia E 20 u.2.2.2.2.2.2.2.2.1)]) := by
  refine z_mi (by decide) (Nat.le_of_ble_eq_true rfl) ?_
  intro p e s m args below meth c A Q ls cx hin hw hl ret
  obtain ⟨hx, hb, hml, hown, hts, hK, hN, hA, hlk⟩ := id cx
  have hl : lv_has ls 4 [(0, .ref h0), (1, .int sd), (2, .int x)] := hl
  refine lv_iload_n hx hb dX5_componentSize_0 rfl (lv_at hl 1 rfl) ?_
  refine z_ri0 (wr := [(h0, ob 5 [.ref hS, .ref hH, .ref hC, .ref hG, .ref hR]), (hS, ob 4 [.ref q, .int (nI n)]), (q, ia E 96 (nA F)), (hC, ob 1 [.ref qp, .ref qd, .ref ql, .ref qg, .int (nI mm)]), (qp, ia E 100 P), (qd, ra E d0 d1), (d0, ia E 24 (nA D0)), (d1, ia E 24 (nA D1)), (ql, ra E l0 l1), (l0, ia E 24 (nA L0)), (l1, ia E 24 (nA L1)), (qg, ra E g0 g1), (g0, ia E 24 (nA G0)), (g1, ia E 24 (nA G1)), (hG, ob 3 [.ref qC, .int (nI gd), .int gc]), (qC, ia E 20 Cm)]) cx hw [] [0, 1, 2, 3, 4, 5, 6, 7, 8, 9, 10, 11, 12, 13, 14, 15] rfl rfl (by decide) (by decide) rfl rfl (z_runS (As := [.int sd]) (rest := []) cx hw [] rfl rfl (c_X5_isSide l E sd  s.heap.size) mf_X5_isSide wd_139 ⟨Nat.le_of_ble_eq_true rfl, Nat.le_of_ble_eq_true rfl⟩ hl (Nat.le_of_ble_eq_true rfl) dX5_componentSize_1 ⟨Nat.le_of_ble_eq_true rfl, Nat.le_of_ble_eq_true rfl⟩) (fun r _ H locs hp hw => ?_)
  have hr_1 := hp
  have hr_1 : r = bI (inR sd 2) := hr_1
  subst hr_1
  have hw : ZW E A s [(h0, ob 5 [.ref hS, .ref hH, .ref hC, .ref hG, .ref hR]), (hS, ob 4 [.ref q, .int (nI n)]), (q, ia E 96 (nA F)), (hC, ob 1 [.ref qp, .ref qd, .ref ql, .ref qg, .int (nI mm)]), (qp, ia E 100 P), (qd, ra E d0 d1), (d0, ia E 24 (nA D0)), (d1, ia E 24 (nA D1)), (ql, ra E l0 l1), (l0, ia E 24 (nA L0)), (l1, ia E 24 (nA L1)), (qg, ra E g0 g1), (g0, ia E 24 (nA G0)), (g1, ia E 24 (nA G1)), (hG, ob 3 [.ref qC, .int (nI gd), .int gc]), (qC, ia E 20 Cm)] H locs := hw
  refine z_ifb_eq hx hb 14 dX5_componentSize_4 (by decide) (fun c_4 => ?_) (fun c_4 => ?_)
  · refine lv_iconst (v := (-1)) hx hb dX5_componentSize_14 (by decide) ?_
    exact ret ((-1)) (D0, D1, L0, L1, G0, G1, P, mm, Cm, gd, gc) 15 ls H locs dX5_componentSize_15 (⟨Or.inl ⟨by simp [c_4], rfl⟩, hB⟩) (hw)
  · obtain ⟨t, ht, rfl⟩ := inR_get c_4 (by omega)
    refine lv_iload_n hx hb dX5_componentSize_7 rfl (lv_at hl 2 rfl) ?_
    refine z_ri0 (wr := [(h0, ob 5 [.ref hS, .ref hH, .ref hC, .ref hG, .ref hR]), (hS, ob 4 [.ref q, .int (nI n)]), (q, ia E 96 (nA F)), (hC, ob 1 [.ref qp, .ref qd, .ref ql, .ref qg, .int (nI mm)]), (qp, ia E 100 P), (qd, ra E d0 d1), (d0, ia E 24 (nA D0)), (d1, ia E 24 (nA D1)), (ql, ra E l0 l1), (l0, ia E 24 (nA L0)), (l1, ia E 24 (nA L1)), (qg, ra E g0 g1), (g0, ia E 24 (nA G0)), (g1, ia E 24 (nA G1)), (hG, ob 3 [.ref qC, .int (nI gd), .int gc]), (qC, ia E 20 Cm)]) cx hw [] [0, 1, 2, 3, 4, 5, 6, 7, 8, 9, 10, 11, 12, 13, 14, 15] rfl rfl (by decide) (by decide) rfl rfl (z_runS (As := [.int x]) (rest := []) cx hw [] rfl rfl (c_X5_isDie l E x  H.size) mf_X5_isDie wd_85 ⟨Nat.le_of_ble_eq_true rfl, Nat.le_of_ble_eq_true rfl⟩ hl (Nat.le_of_ble_eq_true rfl) dX5_componentSize_8 ⟨Nat.le_of_ble_eq_true rfl, Nat.le_of_ble_eq_true rfl⟩) (fun r _ H locs hp hw => ?_)
    have hr_8 := hp
    have hr_8 : r = bI (inR x 10) := hr_8
    subst hr_8
    have hw : ZW E A s [(h0, ob 5 [.ref hS, .ref hH, .ref hC, .ref hG, .ref hR]), (hS, ob 4 [.ref q, .int (nI n)]), (q, ia E 96 (nA F)), (hC, ob 1 [.ref qp, .ref qd, .ref ql, .ref qg, .int (nI mm)]), (qp, ia E 100 P), (qd, ra E d0 d1), (d0, ia E 24 (nA D0)), (d1, ia E 24 (nA D1)), (ql, ra E l0 l1), (l0, ia E 24 (nA L0)), (l1, ia E 24 (nA L1)), (qg, ra E g0 g1), (g0, ia E 24 (nA G0)), (g1, ia E 24 (nA G1)), (hG, ob 3 [.ref qC, .int (nI gd), .int gc]), (qC, ia E 20 Cm)] H locs := hw
    refine z_ifb_ne hx hb 16 dX5_componentSize_11 (by decide) (fun c_11 => ?_) (fun c_11 => ?_)
    · obtain ⟨a2, ha, rfl⟩ := inR_get c_11 (by omega)
      refine lv_aload_n hx hb dX5_componentSize_16 rfl (lv_at hl 0 rfl) ?_
      refine z_get cx hw 0 2 rfl rfl inlX5 (by decide) wd_23 rfl dX5_componentSize_17 ?_
      refine lv_aload_n hx hb dX5_componentSize_20 rfl (lv_at hl 0 rfl) ?_
      refine z_get cx hw 0 0 rfl rfl inlX5 (by decide) wd_15 rfl dX5_componentSize_21 ?_
      refine z_rv0 (wr := [(h0, ob 5 [.ref hS, .ref hH, .ref hC, .ref hG, .ref hR]), (hG, ob 3 [.ref qC, .int (nI gd), .int gc]), (qC, ia E 20 Cm)]) cx hw [3, 4, 5, 6, 7, 8, 9, 10, 11, 12, 13, 1, 2] [0, 14, 15] rfl rfl (by decide) (by decide) rfl rfl (z_runVN (As := [.ref hS]) (rest := []) cx hw rfl rfl [3, 4, 5, 6, 7, 8, 9, 10, 11, 12, 13, 1, 2] rfl rfl (c_X1_list l E hC qp qd d0 d1 ql l0 l1 qg g0 g1 P D0 D1 L0 L1 G0 G1 mm hS q F n (by omega) (hF) (hB) H.size) mf_X1_list (nm_X5_101 hN) ⟨Nat.le_of_ble_eq_true rfl, Nat.le_of_ble_eq_true rfl⟩ hl (Nat.le_of_ble_eq_true rfl) dX5_componentSize_24 ⟨Nat.le_of_ble_eq_true rfl, Nat.le_of_ble_eq_true rfl⟩) (fun u H locs hp hw => ?_)
      obtain ⟨D0, D1, L0, L1, G0, G1⟩ := u
      have hp_24 : Cpl F n n D0 D1 L0 L1 G0 G1 ∧ Bd6 D0 D1 L0 L1 G0 G1 := hp
      have hw : ZW E A s [(h0, ob 5 [.ref hS, .ref hH, .ref hC, .ref hG, .ref hR]), (hG, ob 3 [.ref qC, .int (nI gd), .int gc]), (qC, ia E 20 Cm), (hC, ob 1 [.ref qp, .ref qd, .ref ql, .ref qg, .int (nI (rk (hasP F n) 100))]), (qp, ia E 100 (numb (hasP F n) 100)), (qd, ra E d0 d1), (d0, ia E 24 (nA D0)), (d1, ia E 24 (nA D1)), (ql, ra E l0 l1), (l0, ia E 24 (nA L0)), (l1, ia E 24 (nA L1)), (qg, ra E g0 g1), (g0, ia E 24 (nA G0)), (g1, ia E 24 (nA G1)), (hS, ob 4 [.ref q, .int (nI n)]), (q, ia E 96 (nA F))] H locs := hw
      have hmm_ := rk_hasP F n 100
      refine lv_aload_n hx hb dX5_componentSize_27 rfl (lv_at hl 0 rfl) ?_
      refine z_get cx hw 0 3 rfl rfl inlX5 (by decide) wd_27 rfl dX5_componentSize_28 ?_
      refine lv_aload_n hx hb dX5_componentSize_31 rfl (lv_at hl 0 rfl) ?_
      refine z_get cx hw 0 2 rfl rfl inlX5 (by decide) wd_23 rfl dX5_componentSize_32 ?_
      refine lv_iconst (v := (-1)) hx hb dX5_componentSize_35 (by decide) ?_
      refine z_rv0 (wr := [(h0, ob 5 [.ref hS, .ref hH, .ref hC, .ref hG, .ref hR]), (qp, ia E 100 (numb (hasP F n) 100)), (ql, ra E l0 l1), (l0, ia E 24 (nA L0)), (l1, ia E 24 (nA L1)), (qg, ra E g0 g1), (g0, ia E 24 (nA G0)), (g1, ia E 24 (nA G1)), (hS, ob 4 [.ref q, .int (nI n)]), (q, ia E 96 (nA F))]) cx hw [1, 2, 3, 5, 6, 7] [0, 4, 8, 9, 10, 11, 12, 13, 14, 15] rfl rfl (by decide) (by decide) rfl rfl (z_runVN (As := [.ref hC, .int ((-1))]) (rest := []) cx hw rfl rfl [1, 2, 3, 5, 6, 7] rfl rfl (c_X3_connect l E hG qC Cm gd gc hC qp qd d0 d1 ql qg D0 D1 (rk (hasP F n) 100) (-1) (by omega) (hp_24.2.1) (hp_24.2.2.1) H.size) mf_X3_connect (nm_X5_111 hN) ⟨Nat.le_of_ble_eq_true rfl, Nat.le_of_ble_eq_true rfl⟩ hl (Nat.le_of_ble_eq_true rfl) dX5_componentSize_36 ⟨Nat.le_of_ble_eq_true rfl, Nat.le_of_ble_eq_true rfl⟩) (fun _ H locs hp hw => ?_)
      have hw : ZW E A s [(h0, ob 5 [.ref hS, .ref hH, .ref hC, .ref hG, .ref hR]), (qp, ia E 100 (numb (hasP F n) 100)), (ql, ra E l0 l1), (l0, ia E 24 (nA L0)), (l1, ia E 24 (nA L1)), (qg, ra E g0 g1), (g0, ia E 24 (nA G0)), (g1, ia E 24 (nA G1)), (hS, ob 4 [.ref q, .int (nI n)]), (q, ia E 96 (nA F)), (hG, ob 3 [.ref qC, .int (nI (rk (kv D0 D1 (rk (hasP F n) 100)) 20)), .int (ck D0 D1 (-1) (rk (hasP F n) 100) (rk (hasP F n) 100))]), (qC, ia E 20 (cn D0 D1 (-1) (rk (hasP F n) 100) (rk (hasP F n) 100))), (hC, ob 1 [.ref qp, .ref qd, .ref ql, .ref qg, .int (nI (rk (hasP F n) 100))]), (qd, ra E d0 d1), (d0, ia E 24 (nA D0)), (d1, ia E 24 (nA D1))] H locs := hw
      refine lv_aload_n hx hb dX5_componentSize_39 rfl (lv_at hl 0 rfl) ?_
      refine z_get cx hw 0 3 rfl rfl inlX5 (by decide) wd_27 rfl dX5_componentSize_40 ?_
      refine lv_iload_n hx hb dX5_componentSize_43 rfl (lv_at hl 1 rfl) ?_
      refine lv_iload_n hx hb dX5_componentSize_44 rfl (lv_at hl 2 rfl) ?_
      refine z_ri0 (wr := [(h0, ob 5 [.ref hS, .ref hH, .ref hC, .ref hG, .ref hR]), (qp, ia E 100 (numb (hasP F n) 100)), (ql, ra E l0 l1), (l0, ia E 24 (nA L0)), (l1, ia E 24 (nA L1)), (qg, ra E g0 g1), (g0, ia E 24 (nA G0)), (g1, ia E 24 (nA G1)), (hS, ob 4 [.ref q, .int (nI n)]), (q, ia E 96 (nA F)), (hC, ob 1 [.ref qp, .ref qd, .ref ql, .ref qg, .int (nI (rk (hasP F n) 100))]), (qd, ra E d0 d1), (d0, ia E 24 (nA D0)), (d1, ia E 24 (nA D1))]) cx hw [10, 11] [0, 1, 2, 3, 4, 5, 6, 7, 8, 9, 12, 13, 14, 15] rfl rfl (by decide) (by decide) rfl rfl (z_runVN (As := [.int (nI t), .int (nI a2)]) (rest := []) cx hw rfl rfl [10, 11] rfl rfl (c_X3_diesAround l E hG qC (cn D0 D1 (-1) (rk (hasP F n) 100) (rk (hasP F n) 100)) (rk (kv D0 D1 (rk (hasP F n) 100)) 20) (ck D0 D1 (-1) (rk (hasP F n) 100) (rk (hasP F n) 100)) t a2 (by omega) (by omega) H.size) mf_X3_diesAround (nm_X5_118 hN) ⟨Nat.le_of_ble_eq_true rfl, Nat.le_of_ble_eq_true rfl⟩ hl (Nat.le_of_ble_eq_true rfl) dX5_componentSize_45 ⟨Nat.le_of_ble_eq_true rfl, Nat.le_of_ble_eq_true rfl⟩) (fun r _ H locs hp hw => ?_)
      have hr_45 := hp
      have hr_45 : r = nI (dar (cn D0 D1 (-1) (rk (hasP F n) 100) (rk (hasP F n) 100)) (10 * t + a2)) := hr_45
      subst hr_45
      have hw : ZW E A s [(h0, ob 5 [.ref hS, .ref hH, .ref hC, .ref hG, .ref hR]), (qp, ia E 100 (numb (hasP F n) 100)), (ql, ra E l0 l1), (l0, ia E 24 (nA L0)), (l1, ia E 24 (nA L1)), (qg, ra E g0 g1), (g0, ia E 24 (nA G0)), (g1, ia E 24 (nA G1)), (hS, ob 4 [.ref q, .int (nI n)]), (q, ia E 96 (nA F)), (hC, ob 1 [.ref qp, .ref qd, .ref ql, .ref qg, .int (nI (rk (hasP F n) 100))]), (qd, ra E d0 d1), (d0, ia E 24 (nA D0)), (d1, ia E 24 (nA D1)), (hG, ob 3 [.ref qC, .int (nI (rk (kv D0 D1 (rk (hasP F n) 100)) 20)), .int (ck D0 D1 (-1) (rk (hasP F n) 100) (rk (hasP F n) 100))]), (qC, ia E 20 (cn D0 D1 (-1) (rk (hasP F n) 100) (rk (hasP F n) 100)))] H locs := hw
      refine lv_istore_n (lv' := [(3, .int (nI (dar (cn D0 D1 (-1) (rk (hasP F n) 100) (rk (hasP F n) 100)) (10 * t + a2)))), (0, .ref h0), (1, .int (nI t)), (2, .int (nI a2))]) hx hb dX5_componentSize_48 rfl hl (by decide) rfl (fun ls hl => ?_)
      refine lv_iload_n hx hb dX5_componentSize_49 rfl (lv_at hl 0 rfl) ?_
      have hq_ : dar (cn D0 D1 (-1) (rk (hasP F n) 100) (rk (hasP F n) 100)) (10 * t + a2) ≤ 20 := by simp only [dar]; split; omega; exact cq_le _ _ _
      refine z_if_ne hx hb (by omega) 58 dX5_componentSize_50 (by decide) (fun c_50 => ?_) (fun c_50 => ?_)
      · refine lv_iload_n hx hb dX5_componentSize_58 rfl (lv_at hl 0 rfl) ?_
        exact ret (nI (dar (cn D0 D1 (-1) (rk (hasP F n) 100) (rk (hasP F n) 100)) (10 * t + a2))) (D0, D1, L0, L1, G0, G1, numb (hasP F n) 100, rk (hasP F n) 100, cn D0 D1 (-1) (rk (hasP F n) 100) (rk (hasP F n) 100), rk (kv D0 D1 (rk (hasP F n) 100)) 20, ck D0 D1 (-1) (rk (hasP F n) 100) (rk (hasP F n) 100)) 59 ls H locs dX5_componentSize_59 (⟨Or.inr ⟨by simp only [c_4, c_11, Bool.and_self], hp_24.1, by simp only [csR, c_4, c_11, Bool.and_self, if_true]; rw [cl_nI ht (by decide), cl_nI ha (by decide), if_neg (by omega)]⟩, hp_24.2⟩) (hw.perm [0, 8, 9, 10, 1, 11, 12, 13, 2, 3, 4, 5, 6, 7, 14, 15] rfl (by decide))
      · refine lv_bipush (v := (-3)) hx hb dX5_componentSize_53 (by decide) ?_
        refine lv_goto (tgt := 59) hx hb dX5_componentSize_55 (by decide) ?_
        exact ret ((-3)) (D0, D1, L0, L1, G0, G1, numb (hasP F n) 100, rk (hasP F n) 100, cn D0 D1 (-1) (rk (hasP F n) 100) (rk (hasP F n) 100), rk (kv D0 D1 (rk (hasP F n) 100)) 20, ck D0 D1 (-1) (rk (hasP F n) 100) (rk (hasP F n) 100)) 59 ls H locs dX5_componentSize_59 (⟨Or.inr ⟨by simp only [c_4, c_11, Bool.and_self], hp_24.1, by simp only [csR, c_4, c_11, Bool.and_self, if_true]; rw [cl_nI ht (by decide), cl_nI ha (by decide), if_pos c_50]⟩, hp_24.2⟩) (hw.perm [0, 8, 9, 10, 1, 11, 12, 13, 2, 3, 4, 5, 6, 7, 14, 15] rfl (by decide))
    · refine lv_iconst (v := (-1)) hx hb dX5_componentSize_14 (by decide) ?_
      exact ret ((-1)) (D0, D1, L0, L1, G0, G1, P, mm, Cm, gd, gc) 15 ls H locs dX5_componentSize_15 (⟨Or.inl ⟨by simp [c_11], rfl⟩, hB⟩) (hw)

def rmX5_cycleRank : Room := { frames := 4, cells := 0, slots := 0, locals := 88 }
set_option maxHeartbeats 4000000 in
set_option maxRecDepth 100000 in
theorem c_X5_cycleRank (l : Launch) (E : ZE) (h0 hS hH hC hG hR : Nat) (q : Nat) (F : Nat → Nat) (n : Nat) (qp qd d0 d1 ql l0 l1 qg g0 g1 : Nat) (P : Nat → Int32) (D0 D1 L0 L1 G0 G1 : Nat → Nat) (mm : Nat) (qC : Nat) (Cm : Nat → Int32) (gd : Nat) (gc : Int32) (hn : n ≤ 24) (hF : ∀ j, F j < 10) (hB : Bd6 D0 D1 L0 L1 G0 G1) : ZMi l yX5_cycleRank cX5_cycleRank 1 (some .int) rmX5_cycleRank E [.ref h0] [(h0, ob 5 [.ref hS, .ref hH, .ref hC, .ref hG, .ref hR]), (hS, ob 4 [.ref q, .int (nI n)]), (q, ia E 96 (nA F)), (hC, ob 1 [.ref qp, .ref qd, .ref ql, .ref qg, .int (nI mm)]), (qp, ia E 100 P), (qd, ra E d0 d1), (d0, ia E 24 (nA D0)), (d1, ia E 24 (nA D1)), (ql, ra E l0 l1), (l0, ia E 24 (nA L0)), (l1, ia E 24 (nA L1)), (qg, ra E g0 g1), (g0, ia E 24 (nA G0)), (g1, ia E 24 (nA G1)), (hG, ob 3 [.ref qC, .int (nI gd), .int gc]), (qC, ia E 20 Cm)] (S := (Nat → Nat) × (Nat → Nat) × (Nat → Nat) × (Nat → Nat) × (Nat → Nat) × (Nat → Nat)) (fun r u => r = nI (rk (hasP F n) 100) - nI (rk (kv u.1 u.2.1 (rk (hasP F n) 100)) 20) + ck u.1 u.2.1 (-1) (rk (hasP F n) 100) (rk (hasP F n) 100) ∧ Cpl F n n u.1 u.2.1 u.2.2.1 u.2.2.2.1 u.2.2.2.2.1 u.2.2.2.2.2 ∧ Bd6 u.1 u.2.1 u.2.2.1 u.2.2.2.1 u.2.2.2.2.1 u.2.2.2.2.2) (fun u => [(h0, ob 5 [.ref hS, .ref hH, .ref hC, .ref hG, .ref hR]), (hS, ob 4 [.ref q, .int (nI n)]), (q, ia E 96 (nA F)), (hC, ob 1 [.ref qp, .ref qd, .ref ql, .ref qg, .int (nI (rk (hasP F n) 100))]), (qp, ia E 100 (numb (hasP F n) 100)), (qd, ra E d0 d1), (d0, ia E 24 (nA u.1)), (d1, ia E 24 (nA u.2.1)), (ql, ra E l0 l1), (l0, ia E 24 (nA u.2.2.1)), (l1, ia E 24 (nA u.2.2.2.1)), (qg, ra E g0 g1), (g0, ia E 24 (nA u.2.2.2.2.1)), (g1, ia E 24 (nA u.2.2.2.2.2)), (hG, ob 3 [.ref qC, .int (nI (rk (kv u.1 u.2.1 (rk (hasP F n) 100)) 20)), .int (ck u.1 u.2.1 (-1) (rk (hasP F n) 100) (rk (hasP F n) 100))]), (qC, ia E 20 (cn u.1 u.2.1 (-1) (rk (hasP F n) 100) (rk (hasP F n) 100)))]) := by
  refine z_mi (by decide) (Nat.le_of_ble_eq_true rfl) ?_
  intro p e s m args below meth c A Q ls cx hin hw hl ret
  obtain ⟨hx, hb, hml, hown, hts, hK, hN, hA, hlk⟩ := id cx
  have hl : lv_has ls 1 [(0, .ref h0)] := hl
  refine lv_aload_n hx hb dX5_cycleRank_0 rfl (lv_at hl 0 rfl) ?_
  refine z_get cx hw 0 2 rfl rfl inlX5 (by decide) wd_23 rfl dX5_cycleRank_1 ?_
  refine lv_aload_n hx hb dX5_cycleRank_4 rfl (lv_at hl 0 rfl) ?_
  refine z_get cx hw 0 0 rfl rfl inlX5 (by decide) wd_15 rfl dX5_cycleRank_5 ?_
  refine z_rv0 (wr := [(h0, ob 5 [.ref hS, .ref hH, .ref hC, .ref hG, .ref hR]), (hG, ob 3 [.ref qC, .int (nI gd), .int gc]), (qC, ia E 20 Cm)]) cx hw [3, 4, 5, 6, 7, 8, 9, 10, 11, 12, 13, 1, 2] [0, 14, 15] rfl rfl (by decide) (by decide) rfl rfl (z_runVN (As := [.ref hS]) (rest := []) cx hw rfl rfl [3, 4, 5, 6, 7, 8, 9, 10, 11, 12, 13, 1, 2] rfl rfl (c_X1_list l E hC qp qd d0 d1 ql l0 l1 qg g0 g1 P D0 D1 L0 L1 G0 G1 mm hS q F n (by omega) (hF) (hB) s.heap.size) mf_X1_list (nm_X5_101 hN) ⟨Nat.le_of_ble_eq_true rfl, Nat.le_of_ble_eq_true rfl⟩ hl (Nat.le_of_ble_eq_true rfl) dX5_cycleRank_8 ⟨Nat.le_of_ble_eq_true rfl, Nat.le_of_ble_eq_true rfl⟩) (fun u H locs hp hw => ?_)
  obtain ⟨D0, D1, L0, L1, G0, G1⟩ := u
  have hp_8 : Cpl F n n D0 D1 L0 L1 G0 G1 ∧ Bd6 D0 D1 L0 L1 G0 G1 := hp
  have hw : ZW E A s [(h0, ob 5 [.ref hS, .ref hH, .ref hC, .ref hG, .ref hR]), (hG, ob 3 [.ref qC, .int (nI gd), .int gc]), (qC, ia E 20 Cm), (hC, ob 1 [.ref qp, .ref qd, .ref ql, .ref qg, .int (nI (rk (hasP F n) 100))]), (qp, ia E 100 (numb (hasP F n) 100)), (qd, ra E d0 d1), (d0, ia E 24 (nA D0)), (d1, ia E 24 (nA D1)), (ql, ra E l0 l1), (l0, ia E 24 (nA L0)), (l1, ia E 24 (nA L1)), (qg, ra E g0 g1), (g0, ia E 24 (nA G0)), (g1, ia E 24 (nA G1)), (hS, ob 4 [.ref q, .int (nI n)]), (q, ia E 96 (nA F))] H locs := hw
  have hmm_ := rk_hasP F n 100
  refine lv_aload_n hx hb dX5_cycleRank_11 rfl (lv_at hl 0 rfl) ?_
  refine z_get cx hw 0 3 rfl rfl inlX5 (by decide) wd_27 rfl dX5_cycleRank_12 ?_
  refine lv_aload_n hx hb dX5_cycleRank_15 rfl (lv_at hl 0 rfl) ?_
  refine z_get cx hw 0 2 rfl rfl inlX5 (by decide) wd_23 rfl dX5_cycleRank_16 ?_
  refine lv_iconst (v := (-1)) hx hb dX5_cycleRank_19 (by decide) ?_
  refine z_rv0 (wr := [(h0, ob 5 [.ref hS, .ref hH, .ref hC, .ref hG, .ref hR]), (qp, ia E 100 (numb (hasP F n) 100)), (ql, ra E l0 l1), (l0, ia E 24 (nA L0)), (l1, ia E 24 (nA L1)), (qg, ra E g0 g1), (g0, ia E 24 (nA G0)), (g1, ia E 24 (nA G1)), (hS, ob 4 [.ref q, .int (nI n)]), (q, ia E 96 (nA F))]) cx hw [1, 2, 3, 5, 6, 7] [0, 4, 8, 9, 10, 11, 12, 13, 14, 15] rfl rfl (by decide) (by decide) rfl rfl (z_runVN (As := [.ref hC, .int ((-1))]) (rest := []) cx hw rfl rfl [1, 2, 3, 5, 6, 7] rfl rfl (c_X3_connect l E hG qC Cm gd gc hC qp qd d0 d1 ql qg D0 D1 (rk (hasP F n) 100) (-1) (by omega) (hp_8.2.1) (hp_8.2.2.1) H.size) mf_X3_connect (nm_X5_111 hN) ⟨Nat.le_of_ble_eq_true rfl, Nat.le_of_ble_eq_true rfl⟩ hl (Nat.le_of_ble_eq_true rfl) dX5_cycleRank_20 ⟨Nat.le_of_ble_eq_true rfl, Nat.le_of_ble_eq_true rfl⟩) (fun _ H locs hp hw => ?_)
  have hw : ZW E A s [(h0, ob 5 [.ref hS, .ref hH, .ref hC, .ref hG, .ref hR]), (qp, ia E 100 (numb (hasP F n) 100)), (ql, ra E l0 l1), (l0, ia E 24 (nA L0)), (l1, ia E 24 (nA L1)), (qg, ra E g0 g1), (g0, ia E 24 (nA G0)), (g1, ia E 24 (nA G1)), (hS, ob 4 [.ref q, .int (nI n)]), (q, ia E 96 (nA F)), (hG, ob 3 [.ref qC, .int (nI (rk (kv D0 D1 (rk (hasP F n) 100)) 20)), .int (ck D0 D1 (-1) (rk (hasP F n) 100) (rk (hasP F n) 100))]), (qC, ia E 20 (cn D0 D1 (-1) (rk (hasP F n) 100) (rk (hasP F n) 100))), (hC, ob 1 [.ref qp, .ref qd, .ref ql, .ref qg, .int (nI (rk (hasP F n) 100))]), (qd, ra E d0 d1), (d0, ia E 24 (nA D0)), (d1, ia E 24 (nA D1))] H locs := hw
  refine lv_aload_n hx hb dX5_cycleRank_23 rfl (lv_at hl 0 rfl) ?_
  refine z_get cx hw 0 2 rfl rfl inlX5 (by decide) wd_23 rfl dX5_cycleRank_24 ?_
  refine z_getN cx hw 12 4 rfl rfl inlX1 (by decide) (nf_X5_104 hN) rfl dX5_cycleRank_27 ?_
  refine lv_aload_n hx hb dX5_cycleRank_30 rfl (lv_at hl 0 rfl) ?_
  refine z_get cx hw 0 3 rfl rfl inlX5 (by decide) wd_27 rfl dX5_cycleRank_31 ?_
  refine z_getN cx hw 10 1 rfl rfl inlX3 (by decide) (nf_X5_121 hN) rfl dX5_cycleRank_34 ?_
  refine lv_isub hx hb dX5_cycleRank_37 ?_
  refine lv_aload_n hx hb dX5_cycleRank_38 rfl (lv_at hl 0 rfl) ?_
  refine z_get cx hw 0 3 rfl rfl inlX5 (by decide) wd_27 rfl dX5_cycleRank_39 ?_
  refine z_getN cx hw 10 2 rfl rfl inlX3 (by decide) (nf_X5_115 hN) rfl dX5_cycleRank_42 ?_
  refine lv_iadd hx hb dX5_cycleRank_45 ?_
  exact ret (((nI (rk (hasP F n) 100)) - (nI (rk (kv D0 D1 (rk (hasP F n) 100)) 20))) + (ck D0 D1 (-1) (rk (hasP F n) 100) (rk (hasP F n) 100))) (D0, D1, L0, L1, G0, G1) 46 ls H locs dX5_cycleRank_46 (⟨by rfl, hp_8⟩) (hw.perm [0, 8, 9, 12, 1, 13, 14, 15, 2, 3, 4, 5, 6, 7, 10, 11] rfl (by decide))

def rmX5_bridgeCount : Room := { frames := 5, cells := 0, slots := 0, locals := 109 }
set_option maxHeartbeats 4000000 in
set_option maxRecDepth 100000 in
theorem c_X5_bridgeCount (l : Launch) (E : ZE) (h0 hS hH hC hG hR : Nat) (q : Nat) (F : Nat → Nat) (n : Nat) (qp qd d0 d1 ql l0 l1 qg g0 g1 : Nat) (P : Nat → Int32) (D0 D1 L0 L1 G0 G1 : Nat → Nat) (mm : Nat) (qC : Nat) (Cm : Nat → Int32) (gd : Nat) (gc : Int32) (hn : n ≤ 24) (hF : ∀ j, F j < 10) (hB : Bd6 D0 D1 L0 L1 G0 G1) : ZMi l yX5_bridgeCount cX5_bridgeCount 3 (some .int) rmX5_bridgeCount E [.ref h0] [(h0, ob 5 [.ref hS, .ref hH, .ref hC, .ref hG, .ref hR]), (hS, ob 4 [.ref q, .int (nI n)]), (q, ia E 96 (nA F)), (hC, ob 1 [.ref qp, .ref qd, .ref ql, .ref qg, .int (nI mm)]), (qp, ia E 100 P), (qd, ra E d0 d1), (d0, ia E 24 (nA D0)), (d1, ia E 24 (nA D1)), (ql, ra E l0 l1), (l0, ia E 24 (nA L0)), (l1, ia E 24 (nA L1)), (qg, ra E g0 g1), (g0, ia E 24 (nA G0)), (g1, ia E 24 (nA G1)), (hG, ob 3 [.ref qC, .int (nI gd), .int gc]), (qC, ia E 20 Cm)] (S := (Nat → Nat) × (Nat → Nat) × (Nat → Nat) × (Nat → Nat) × (Nat → Nat) × (Nat → Nat) × (Nat → Int32) × Nat × Int32) (fun r u => r = nI (bc u.1 u.2.1 (rk (hasP F n) 100) (rk (hasP F n) 100)) ∧ Cpl F n n u.1 u.2.1 u.2.2.1 u.2.2.2.1 u.2.2.2.2.1 u.2.2.2.2.2.1 ∧ Bd6 u.1 u.2.1 u.2.2.1 u.2.2.2.1 u.2.2.2.2.1 u.2.2.2.2.2.1) (fun u => [(h0, ob 5 [.ref hS, .ref hH, .ref hC, .ref hG, .ref hR]), (hS, ob 4 [.ref q, .int (nI n)]), (q, ia E 96 (nA F)), (hC, ob 1 [.ref qp, .ref qd, .ref ql, .ref qg, .int (nI (rk (hasP F n) 100))]), (qp, ia E 100 (numb (hasP F n) 100)), (qd, ra E d0 d1), (d0, ia E 24 (nA u.1)), (d1, ia E 24 (nA u.2.1)), (ql, ra E l0 l1), (l0, ia E 24 (nA u.2.2.1)), (l1, ia E 24 (nA u.2.2.2.1)), (qg, ra E g0 g1), (g0, ia E 24 (nA u.2.2.2.2.1)), (g1, ia E 24 (nA u.2.2.2.2.2.1)), (hG, ob 3 [.ref qC, .int (nI u.2.2.2.2.2.2.2.1), .int (u.2.2.2.2.2.2.2.2)]), (qC, ia E 20 u.2.2.2.2.2.2.1)]) := by
  refine z_mi (by decide) (Nat.le_of_ble_eq_true rfl) ?_
  intro p e s m args below meth c A Q ls cx hin hw hl ret
  obtain ⟨hx, hb, hml, hown, hts, hK, hN, hA, hlk⟩ := id cx
  have hl : lv_has ls 3 [(0, .ref h0)] := hl
  refine lv_aload_n hx hb dX5_bridgeCount_0 rfl (lv_at hl 0 rfl) ?_
  refine z_get cx hw 0 2 rfl rfl inlX5 (by decide) wd_23 rfl dX5_bridgeCount_1 ?_
  refine lv_aload_n hx hb dX5_bridgeCount_4 rfl (lv_at hl 0 rfl) ?_
  refine z_get cx hw 0 0 rfl rfl inlX5 (by decide) wd_15 rfl dX5_bridgeCount_5 ?_
  refine z_rv0 (wr := [(h0, ob 5 [.ref hS, .ref hH, .ref hC, .ref hG, .ref hR]), (hG, ob 3 [.ref qC, .int (nI gd), .int gc]), (qC, ia E 20 Cm)]) cx hw [3, 4, 5, 6, 7, 8, 9, 10, 11, 12, 13, 1, 2] [0, 14, 15] rfl rfl (by decide) (by decide) rfl rfl (z_runVN (As := [.ref hS]) (rest := []) cx hw rfl rfl [3, 4, 5, 6, 7, 8, 9, 10, 11, 12, 13, 1, 2] rfl rfl (c_X1_list l E hC qp qd d0 d1 ql l0 l1 qg g0 g1 P D0 D1 L0 L1 G0 G1 mm hS q F n (by omega) (hF) (hB) s.heap.size) mf_X1_list (nm_X5_101 hN) ⟨Nat.le_of_ble_eq_true rfl, Nat.le_of_ble_eq_true rfl⟩ hl (Nat.le_of_ble_eq_true rfl) dX5_bridgeCount_8 ⟨Nat.le_of_ble_eq_true rfl, Nat.le_of_ble_eq_true rfl⟩) (fun u H locs hp hw => ?_)
  obtain ⟨D0, D1, L0, L1, G0, G1⟩ := u
  have hp_8 : Cpl F n n D0 D1 L0 L1 G0 G1 ∧ Bd6 D0 D1 L0 L1 G0 G1 := hp
  have hw : ZW E A s [(h0, ob 5 [.ref hS, .ref hH, .ref hC, .ref hG, .ref hR]), (hG, ob 3 [.ref qC, .int (nI gd), .int gc]), (qC, ia E 20 Cm), (hC, ob 1 [.ref qp, .ref qd, .ref ql, .ref qg, .int (nI (rk (hasP F n) 100))]), (qp, ia E 100 (numb (hasP F n) 100)), (qd, ra E d0 d1), (d0, ia E 24 (nA D0)), (d1, ia E 24 (nA D1)), (ql, ra E l0 l1), (l0, ia E 24 (nA L0)), (l1, ia E 24 (nA L1)), (qg, ra E g0 g1), (g0, ia E 24 (nA G0)), (g1, ia E 24 (nA G1)), (hS, ob 4 [.ref q, .int (nI n)]), (q, ia E 96 (nA F))] H locs := hw
  have hmm_ := rk_hasP F n 100
  refine lv_iconst (v := nI 0) hx hb dX5_bridgeCount_11 (by decide) ?_
  refine lv_istore_n (lv' := [(1, .int (nI 0)), (0, .ref h0)]) hx hb dX5_bridgeCount_12 rfl hl (by decide) rfl (fun ls hl => ?_)
  refine lv_iconst (v := nI 0) hx hb dX5_bridgeCount_13 (by decide) ?_
  refine lv_istore_n (lv' := [(2, .int (nI 0)), (1, .int (nI 0)), (0, .ref h0)]) hx hb dX5_bridgeCount_14 rfl hl (by decide) rfl (fun ls hl => ?_)
  have loop_15 : ∀ (fuel : Nat) (k : Nat) (Cm : Nat → Int32) (gd : Nat) (gc : Int32) (hk : k ≤ rk (hasP F n) 100) (hm : rk (hasP F n) 100 - k < fuel) (H : Heap) (locs : List Loc) (ls : Array Slot), ZW E A s [(h0, ob 5 [.ref hS, .ref hH, .ref hC, .ref hG, .ref hR]), (hG, ob 3 [.ref qC, .int (nI gd), .int gc]), (qC, ia E 20 Cm), (hC, ob 1 [.ref qp, .ref qd, .ref ql, .ref qg, .int (nI (rk (hasP F n) 100))]), (qp, ia E 100 (numb (hasP F n) 100)), (qd, ra E d0 d1), (d0, ia E 24 (nA D0)), (d1, ia E 24 (nA D1)), (ql, ra E l0 l1), (l0, ia E 24 (nA L0)), (l1, ia E 24 (nA L1)), (qg, ra E g0 g1), (g0, ia E 24 (nA G0)), (g1, ia E 24 (nA G1)), (hS, ob 4 [.ref q, .int (nI n)]), (q, ia E 96 (nA F))] H locs → lv_has ls 3 [(0, .ref h0), (1, .int (nI (bc D0 D1 (rk (hasP F n) 100) k))), (2, .int (nI k))] → W p l e rmX5_bridgeCount s m args below meth c H locs 0 0 Q (F0 m 15 ls []) := by
    intro fuel
    induction fuel with
    | zero => intro k Cm gd gc hk hm; exact absurd hm (Nat.not_lt_zero _)
    | succ fuel ih_15 =>
      intro k Cm gd gc hk hm H locs ls hw hl
      refine lv_iload_n hx hb dX5_bridgeCount_15 rfl (lv_at hl 2 rfl) ?_
      refine lv_aload_n hx hb dX5_bridgeCount_16 rfl (lv_at hl 0 rfl) ?_
      refine z_get cx hw 0 2 rfl rfl inlX5 (by decide) wd_23 rfl dX5_bridgeCount_17 ?_
      refine z_getN cx hw 3 4 rfl rfl inlX1 (by decide) (nf_X5_104 hN) rfl dX5_bridgeCount_20 ?_
      refine z_icmp_ge hx hb (by omega) (by omega) 50 dX5_bridgeCount_23 (by decide) (fun c_23 => ?_) (fun c_23 => ?_)
      · refine lv_iload_n hx hb dX5_bridgeCount_50 rfl (lv_at hl 1 rfl) ?_
        have e_ : k = rk (hasP F n) 100 := by omega
        exact ret (nI (bc D0 D1 (rk (hasP F n) 100) k)) (D0, D1, L0, L1, G0, G1, Cm, gd, gc) 51 ls H locs dX5_bridgeCount_51 (⟨congrArg nI (by rw [e_]), hp_8⟩) (hw.perm [0, 14, 15, 3, 4, 5, 6, 7, 8, 9, 10, 11, 12, 13, 1, 2] rfl (by decide))
      · refine lv_aload_n hx hb dX5_bridgeCount_26 rfl (lv_at hl 0 rfl) ?_
        refine z_get cx hw 0 3 rfl rfl inlX5 (by decide) wd_27 rfl dX5_bridgeCount_27 ?_
        refine lv_aload_n hx hb dX5_bridgeCount_30 rfl (lv_at hl 0 rfl) ?_
        refine z_get cx hw 0 2 rfl rfl inlX5 (by decide) wd_23 rfl dX5_bridgeCount_31 ?_
        refine lv_iload_n hx hb dX5_bridgeCount_34 rfl (lv_at hl 2 rfl) ?_
        refine z_ri0 (wr := [(h0, ob 5 [.ref hS, .ref hH, .ref hC, .ref hG, .ref hR]), (qp, ia E 100 (numb (hasP F n) 100)), (ql, ra E l0 l1), (l0, ia E 24 (nA L0)), (l1, ia E 24 (nA L1)), (qg, ra E g0 g1), (g0, ia E 24 (nA G0)), (g1, ia E 24 (nA G1)), (hS, ob 4 [.ref q, .int (nI n)]), (q, ia E 96 (nA F))]) cx hw [1, 2, 3, 5, 6, 7] [0, 4, 8, 9, 10, 11, 12, 13, 14, 15] rfl rfl (by decide) (by decide) rfl rfl (z_runVN (As := [.ref hC, .int (nI k)]) (rest := []) cx hw rfl rfl [1, 2, 3, 5, 6, 7] rfl rfl (c_X3_fallsApartWithout l E hG qC Cm gd gc hC qp qd d0 d1 ql qg D0 D1 (rk (hasP F n) 100) k (by omega) (hp_8.2.1) (hp_8.2.2.1) (by omega) H.size) mf_X3_fallsApartWithout (nm_X5_124 hN) ⟨Nat.le_of_ble_eq_true rfl, Nat.le_of_ble_eq_true rfl⟩ hl (Nat.le_of_ble_eq_true rfl) dX5_bridgeCount_35 ⟨Nat.le_of_ble_eq_true rfl, Nat.le_of_ble_eq_true rfl⟩) (fun r _ H locs hp hw => ?_)
        have hr_35 := hp
        have hr_35 : r = bI (fa D0 D1 (rk (hasP F n) 100) k) := hr_35
        subst hr_35
        have hw : ZW E A s [(h0, ob 5 [.ref hS, .ref hH, .ref hC, .ref hG, .ref hR]), (qp, ia E 100 (numb (hasP F n) 100)), (ql, ra E l0 l1), (l0, ia E 24 (nA L0)), (l1, ia E 24 (nA L1)), (qg, ra E g0 g1), (g0, ia E 24 (nA G0)), (g1, ia E 24 (nA G1)), (hS, ob 4 [.ref q, .int (nI n)]), (q, ia E 96 (nA F)), (hG, ob 3 [.ref qC, .int (nI (rk (kv D0 D1 (rk (hasP F n) 100)) 20)), .int (ck D0 D1 (nI k) (rk (hasP F n) 100) (rk (hasP F n) 100))]), (qC, ia E 20 (cn D0 D1 (nI k) (rk (hasP F n) 100) (rk (hasP F n) 100))), (hC, ob 1 [.ref qp, .ref qd, .ref ql, .ref qg, .int (nI (rk (hasP F n) 100))]), (qd, ra E d0 d1), (d0, ia E 24 (nA D0)), (d1, ia E 24 (nA D1))] H locs := hw
        refine z_ifb_eq hx hb 44 dX5_bridgeCount_38 (by decide) (fun c_38 => ?_) (fun c_38 => ?_)
        · refine lv_iinc (v := nI (k + 1)) (lv' := [(2, .int (nI (k + 1))), (0, .ref h0), (1, .int (nI (bc D0 D1 (rk (hasP F n) 100) k)))]) hx hb dX5_bridgeCount_44 hl (k := 2) rfl (nI_1 _) (by decide) rfl (fun ls hl => ?_)
          refine lv_goto (tgt := 15) hx hb dX5_bridgeCount_47 (by decide) ?_
          exact ih_15 (k + 1) (cn D0 D1 (nI k) (rk (hasP F n) 100) (rk (hasP F n) 100)) (rk (kv D0 D1 (rk (hasP F n) 100)) 20) (ck D0 D1 (nI k) (rk (hasP F n) 100) (rk (hasP F n) 100)) (by omega) (by omega) _ _ ls (hw.perm [0, 10, 11, 12, 1, 13, 14, 15, 2, 3, 4, 5, 6, 7, 8, 9] rfl (by decide)) (lv_add (lv_add (lv_add (lv_nil hl) (lv_at hl 0 rfl)) (lv_eqv (lv_at hl 2 rfl) (zN (by simp [bc, c_38])))) (lv_at hl 1 rfl))
        · refine lv_iinc (v := nI (bc D0 D1 (rk (hasP F n) 100) k + 1)) (lv' := [(1, .int (nI (bc D0 D1 (rk (hasP F n) 100) k + 1))), (0, .ref h0), (2, .int (nI k))]) hx hb dX5_bridgeCount_41 hl (k := 1) rfl (nI_1 _) (by decide) rfl (fun ls hl => ?_)
          refine lv_iinc (v := nI (k + 1)) (lv' := [(2, .int (nI (k + 1))), (1, .int (nI (bc D0 D1 (rk (hasP F n) 100) k + 1))), (0, .ref h0)]) hx hb dX5_bridgeCount_44 hl (k := 2) rfl (nI_1 _) (by decide) rfl (fun ls hl => ?_)
          refine lv_goto (tgt := 15) hx hb dX5_bridgeCount_47 (by decide) ?_
          exact ih_15 (k + 1) (cn D0 D1 (nI k) (rk (hasP F n) 100) (rk (hasP F n) 100)) (rk (kv D0 D1 (rk (hasP F n) 100)) 20) (ck D0 D1 (nI k) (rk (hasP F n) 100) (rk (hasP F n) 100)) (by omega) (by omega) _ _ ls (hw.perm [0, 10, 11, 12, 1, 13, 14, 15, 2, 3, 4, 5, 6, 7, 8, 9] rfl (by decide)) (lv_add (lv_add (lv_add (lv_nil hl) (lv_at hl 0 rfl)) (lv_eqv (lv_at hl 1 rfl) (zN (by simp [bc, c_38])))) (lv_at hl 2 rfl))
  exact loop_15 _ 0 Cm gd gc (by omega) (Nat.lt_succ_self _) _ _ ls (hw) (lv_add (lv_add (lv_add (lv_nil hl) (lv_at hl 0 rfl)) (lv_eqv (lv_at hl 1 rfl) (zN (by rfl)))) (lv_at hl 2 rfl))

def rmX5_isBridge : Room := { frames := 5, cells := 0, slots := 0, locals := 109 }
set_option maxHeartbeats 4000000 in
set_option maxRecDepth 100000 in
theorem c_X5_isBridge (l : Launch) (E : ZE) (h0 hS hH hC hG hR : Nat) (q : Nat) (F : Nat → Nat) (n : Nat) (qp qd d0 d1 ql l0 l1 qg g0 g1 : Nat) (P : Nat → Int32) (D0 D1 L0 L1 G0 G1 : Nat → Nat) (mm : Nat) (qC : Nat) (Cm : Nat → Int32) (gd : Nat) (gc : Int32) (x : Int32) (hn : n ≤ 24) (hF : ∀ j, F j < 10) (hB : Bd6 D0 D1 L0 L1 G0 G1) : ZMi l yX5_isBridge cX5_isBridge 3 (some .int) rmX5_isBridge E [.ref h0, .int x] [(h0, ob 5 [.ref hS, .ref hH, .ref hC, .ref hG, .ref hR]), (hS, ob 4 [.ref q, .int (nI n)]), (q, ia E 96 (nA F)), (hC, ob 1 [.ref qp, .ref qd, .ref ql, .ref qg, .int (nI mm)]), (qp, ia E 100 P), (qd, ra E d0 d1), (d0, ia E 24 (nA D0)), (d1, ia E 24 (nA D1)), (ql, ra E l0 l1), (l0, ia E 24 (nA L0)), (l1, ia E 24 (nA L1)), (qg, ra E g0 g1), (g0, ia E 24 (nA G0)), (g1, ia E 24 (nA G1)), (hG, ob 3 [.ref qC, .int (nI gd), .int gc]), (qC, ia E 20 Cm)] (S := (Nat → Nat) × (Nat → Nat) × (Nat → Nat) × (Nat → Nat) × (Nat → Nat) × (Nat → Nat) × (Nat → Int32) × Nat × Int32) (fun r u => r = ibR x (rk (hasP F n) 100) u.1 u.2.1 ∧ Cpl F n n u.1 u.2.1 u.2.2.1 u.2.2.2.1 u.2.2.2.2.1 u.2.2.2.2.2.1 ∧ Bd6 u.1 u.2.1 u.2.2.1 u.2.2.2.1 u.2.2.2.2.1 u.2.2.2.2.2.1) (fun u => [(h0, ob 5 [.ref hS, .ref hH, .ref hC, .ref hG, .ref hR]), (hS, ob 4 [.ref q, .int (nI n)]), (q, ia E 96 (nA F)), (hC, ob 1 [.ref qp, .ref qd, .ref ql, .ref qg, .int (nI (rk (hasP F n) 100))]), (qp, ia E 100 (numb (hasP F n) 100)), (qd, ra E d0 d1), (d0, ia E 24 (nA u.1)), (d1, ia E 24 (nA u.2.1)), (ql, ra E l0 l1), (l0, ia E 24 (nA u.2.2.1)), (l1, ia E 24 (nA u.2.2.2.1)), (qg, ra E g0 g1), (g0, ia E 24 (nA u.2.2.2.2.1)), (g1, ia E 24 (nA u.2.2.2.2.2.1)), (hG, ob 3 [.ref qC, .int (nI u.2.2.2.2.2.2.2.1), .int (u.2.2.2.2.2.2.2.2)]), (qC, ia E 20 u.2.2.2.2.2.2.1)]) := by
  refine z_mi (by decide) (Nat.le_of_ble_eq_true rfl) ?_
  intro p e s m args below meth c A Q ls cx hin hw hl ret
  obtain ⟨hx, hb, hml, hown, hts, hK, hN, hA, hlk⟩ := id cx
  have hl : lv_has ls 3 [(0, .ref h0), (1, .int x)] := hl
  refine lv_aload_n hx hb dX5_isBridge_0 rfl (lv_at hl 0 rfl) ?_
  refine z_get cx hw 0 2 rfl rfl inlX5 (by decide) wd_23 rfl dX5_isBridge_1 ?_
  refine lv_aload_n hx hb dX5_isBridge_4 rfl (lv_at hl 0 rfl) ?_
  refine z_get cx hw 0 0 rfl rfl inlX5 (by decide) wd_15 rfl dX5_isBridge_5 ?_
  refine z_rv0 (wr := [(h0, ob 5 [.ref hS, .ref hH, .ref hC, .ref hG, .ref hR]), (hG, ob 3 [.ref qC, .int (nI gd), .int gc]), (qC, ia E 20 Cm)]) cx hw [3, 4, 5, 6, 7, 8, 9, 10, 11, 12, 13, 1, 2] [0, 14, 15] rfl rfl (by decide) (by decide) rfl rfl (z_runVN (As := [.ref hS]) (rest := []) cx hw rfl rfl [3, 4, 5, 6, 7, 8, 9, 10, 11, 12, 13, 1, 2] rfl rfl (c_X1_list l E hC qp qd d0 d1 ql l0 l1 qg g0 g1 P D0 D1 L0 L1 G0 G1 mm hS q F n (by omega) (hF) (hB) s.heap.size) mf_X1_list (nm_X5_101 hN) ⟨Nat.le_of_ble_eq_true rfl, Nat.le_of_ble_eq_true rfl⟩ hl (Nat.le_of_ble_eq_true rfl) dX5_isBridge_8 ⟨Nat.le_of_ble_eq_true rfl, Nat.le_of_ble_eq_true rfl⟩) (fun u H locs hp hw => ?_)
  obtain ⟨D0, D1, L0, L1, G0, G1⟩ := u
  have hp_8 : Cpl F n n D0 D1 L0 L1 G0 G1 ∧ Bd6 D0 D1 L0 L1 G0 G1 := hp
  have hw : ZW E A s [(h0, ob 5 [.ref hS, .ref hH, .ref hC, .ref hG, .ref hR]), (hG, ob 3 [.ref qC, .int (nI gd), .int gc]), (qC, ia E 20 Cm), (hC, ob 1 [.ref qp, .ref qd, .ref ql, .ref qg, .int (nI (rk (hasP F n) 100))]), (qp, ia E 100 (numb (hasP F n) 100)), (qd, ra E d0 d1), (d0, ia E 24 (nA D0)), (d1, ia E 24 (nA D1)), (ql, ra E l0 l1), (l0, ia E 24 (nA L0)), (l1, ia E 24 (nA L1)), (qg, ra E g0 g1), (g0, ia E 24 (nA G0)), (g1, ia E 24 (nA G1)), (hS, ob 4 [.ref q, .int (nI n)]), (q, ia E 96 (nA F))] H locs := hw
  have hmm_ := rk_hasP F n 100
  refine lv_aload_n hx hb dX5_isBridge_11 rfl (lv_at hl 0 rfl) ?_
  refine lv_iload_n hx hb dX5_isBridge_12 rfl (lv_at hl 1 rfl) ?_
  refine z_ri0 (wr := [(hG, ob 3 [.ref qC, .int (nI gd), .int gc]), (qC, ia E 20 Cm), (hS, ob 4 [.ref q, .int (nI n)]), (q, ia E 96 (nA F))]) cx hw [0, 3, 4, 5, 6, 7, 8, 9, 10, 11, 12, 13] [1, 2, 14, 15] rfl rfl (by decide) (by decide) rfl rfl (z_runV (As := [.int x]) (rest := []) cx hw rfl rfl [0, 3, 4, 5, 6, 7, 8, 9, 10, 11, 12, 13] rfl rfl (c_X5_errorOfPlace l E h0 hS hH hC hG hR qp qd d0 d1 ql l0 l1 qg g0 g1 (numb (hasP F n) 100) D0 D1 L0 L1 G0 G1 (rk (hasP F n) 100) x (by omega) H.size) mf_X5_errorOfPlace wd_296 ⟨Nat.le_of_ble_eq_true rfl, Nat.le_of_ble_eq_true rfl⟩ hl (Nat.le_of_ble_eq_true rfl) dX5_isBridge_13 ⟨Nat.le_of_ble_eq_true rfl, Nat.le_of_ble_eq_true rfl⟩) (fun r _ H locs hp hw => ?_)
  have hr_13 := hp
  have hr_13 : r = erP x (rk (hasP F n) 100) := hr_13
  subst hr_13
  have hw : ZW E A s [(hG, ob 3 [.ref qC, .int (nI gd), .int gc]), (qC, ia E 20 Cm), (hS, ob 4 [.ref q, .int (nI n)]), (q, ia E 96 (nA F)), (h0, ob 5 [.ref hS, .ref hH, .ref hC, .ref hG, .ref hR]), (hC, ob 1 [.ref qp, .ref qd, .ref ql, .ref qg, .int (nI (rk (hasP F n) 100))]), (qp, ia E 100 (numb (hasP F n) 100)), (qd, ra E d0 d1), (d0, ia E 24 (nA D0)), (d1, ia E 24 (nA D1)), (ql, ra E l0 l1), (l0, ia E 24 (nA L0)), (l1, ia E 24 (nA L1)), (qg, ra E g0 g1), (g0, ia E 24 (nA G0)), (g1, ia E 24 (nA G1))] H locs := hw
  refine lv_istore_n (lv' := [(2, .int (erP x (rk (hasP F n) 100))), (0, .ref h0), (1, .int x)]) hx hb dX5_isBridge_16 rfl hl (by decide) rfl (fun ls hl => ?_)
  refine lv_iload_n hx hb dX5_isBridge_17 rfl (lv_at hl 0 rfl) ?_
  refine lv_if_eq (tgt := 23) hx hb dX5_isBridge_18 (by decide) (fun c_18 => ?_) (fun c_18 => ?_)
  · have hI_ : inR x (rk (hasP F n) 100) = true := by
      by_cases g_ : inR x (rk (hasP F n) 100) = true
      · exact g_
      · exact absurd c_18 (by rw [erP]; by_cases h_ : x < 0 <;> simp [h_, g_])
    obtain ⟨k, hk, rfl⟩ := inR_get hI_ (by omega)
    refine lv_aload_n hx hb dX5_isBridge_23 rfl (lv_at hl 1 rfl) ?_
    refine z_get cx hw 4 3 rfl rfl inlX5 (by decide) wd_27 rfl dX5_isBridge_24 ?_
    refine lv_aload_n hx hb dX5_isBridge_27 rfl (lv_at hl 1 rfl) ?_
    refine z_get cx hw 4 2 rfl rfl inlX5 (by decide) wd_23 rfl dX5_isBridge_28 ?_
    refine lv_iload_n hx hb dX5_isBridge_31 rfl (lv_at hl 2 rfl) ?_
    refine z_ri0 (wr := [(hS, ob 4 [.ref q, .int (nI n)]), (q, ia E 96 (nA F)), (h0, ob 5 [.ref hS, .ref hH, .ref hC, .ref hG, .ref hR]), (qp, ia E 100 (numb (hasP F n) 100)), (ql, ra E l0 l1), (l0, ia E 24 (nA L0)), (l1, ia E 24 (nA L1)), (qg, ra E g0 g1), (g0, ia E 24 (nA G0)), (g1, ia E 24 (nA G1))]) cx hw [0, 1, 5, 7, 8, 9] [2, 3, 4, 6, 10, 11, 12, 13, 14, 15] rfl rfl (by decide) (by decide) rfl rfl (z_runVN (As := [.ref hC, .int (nI k)]) (rest := []) cx hw rfl rfl [0, 1, 5, 7, 8, 9] rfl rfl (c_X3_fallsApartWithout l E hG qC Cm gd gc hC qp qd d0 d1 ql qg D0 D1 (rk (hasP F n) 100) k (by omega) (hp_8.2.1) (hp_8.2.2.1) (by omega) H.size) mf_X3_fallsApartWithout (nm_X5_124 hN) ⟨Nat.le_of_ble_eq_true rfl, Nat.le_of_ble_eq_true rfl⟩ hl (Nat.le_of_ble_eq_true rfl) dX5_isBridge_32 ⟨Nat.le_of_ble_eq_true rfl, Nat.le_of_ble_eq_true rfl⟩) (fun r _ H locs hp hw => ?_)
    have hr_32 := hp
    have hr_32 : r = bI (fa D0 D1 (rk (hasP F n) 100) k) := hr_32
    subst hr_32
    have hw : ZW E A s [(hS, ob 4 [.ref q, .int (nI n)]), (q, ia E 96 (nA F)), (h0, ob 5 [.ref hS, .ref hH, .ref hC, .ref hG, .ref hR]), (qp, ia E 100 (numb (hasP F n) 100)), (ql, ra E l0 l1), (l0, ia E 24 (nA L0)), (l1, ia E 24 (nA L1)), (qg, ra E g0 g1), (g0, ia E 24 (nA G0)), (g1, ia E 24 (nA G1)), (hG, ob 3 [.ref qC, .int (nI (rk (kv D0 D1 (rk (hasP F n) 100)) 20)), .int (ck D0 D1 (nI k) (rk (hasP F n) 100) (rk (hasP F n) 100))]), (qC, ia E 20 (cn D0 D1 (nI k) (rk (hasP F n) 100) (rk (hasP F n) 100))), (hC, ob 1 [.ref qp, .ref qd, .ref ql, .ref qg, .int (nI (rk (hasP F n) 100))]), (qd, ra E d0 d1), (d0, ia E 24 (nA D0)), (d1, ia E 24 (nA D1))] H locs := hw
    refine z_ifb_eq hx hb 42 dX5_isBridge_35 (by decide) (fun c_35 => ?_) (fun c_35 => ?_)
    · refine lv_iconst (v := nI 0) hx hb dX5_isBridge_42 (by decide) ?_
      exact ret (nI 0) (D0, D1, L0, L1, G0, G1, cn D0 D1 (nI k) (rk (hasP F n) 100) (rk (hasP F n) 100), rk (kv D0 D1 (rk (hasP F n) 100)) 20, ck D0 D1 (nI k) (rk (hasP F n) 100) (rk (hasP F n) 100)) 43 ls H locs dX5_isBridge_43 (⟨by rw [ibR, if_pos hI_, cl_nI hk (by omega), c_35]; rfl, hp_8⟩) (hw.perm [2, 0, 1, 12, 3, 13, 14, 15, 4, 5, 6, 7, 8, 9, 10, 11] rfl (by decide))
    · refine lv_iconst (v := nI 1) hx hb dX5_isBridge_38 (by decide) ?_
      refine lv_goto (tgt := 43) hx hb dX5_isBridge_39 (by decide) ?_
      exact ret (nI 1) (D0, D1, L0, L1, G0, G1, cn D0 D1 (nI k) (rk (hasP F n) 100) (rk (hasP F n) 100), rk (kv D0 D1 (rk (hasP F n) 100)) 20, ck D0 D1 (nI k) (rk (hasP F n) 100) (rk (hasP F n) 100)) 43 ls H locs dX5_isBridge_43 (⟨by rw [ibR, if_pos hI_, cl_nI hk (by omega), c_35]; rfl, hp_8⟩) (hw.perm [2, 0, 1, 12, 3, 13, 14, 15, 4, 5, 6, 7, 8, 9, 10, 11] rfl (by decide))
  · refine lv_iload_n hx hb dX5_isBridge_21 rfl (lv_at hl 0 rfl) ?_
    have hE_ : inR x (rk (hasP F n) 100) = false := by
      cases g_ : inR x (rk (hasP F n) 100) with
      | false => rfl
      | true => exact absurd (by rw [erP, if_neg (fun q => by rw [inR_neg q] at g_; cases g_), if_pos g_]; rfl) c_18
    exact ret (erP x (rk (hasP F n) 100)) (D0, D1, L0, L1, G0, G1, Cm, gd, gc) 22 ls H locs dX5_isBridge_22 (⟨by simp only [ibR, erP, hE_]; by_cases h_ : x < 0 <;> simp [h_], hp_8⟩) (hw.perm [4, 2, 3, 5, 6, 7, 8, 9, 10, 11, 12, 13, 14, 15, 0, 1] rfl (by decide))

def rmX5_compareCouples : Room := { frames := 4, cells := 0, slots := 0, locals := 88 }
set_option maxHeartbeats 4000000 in
set_option maxRecDepth 100000 in
theorem c_X5_compareCouples (l : Launch) (E : ZE) (h0 hS hH hC hG hR : Nat) (q : Nat) (F : Nat → Nat) (n : Nat) (qp qd d0 d1 ql l0 l1 qg g0 g1 : Nat) (P : Nat → Int32) (D0 D1 L0 L1 G0 G1 : Nat → Nat) (mm : Nat) (x y : Int32) (hn : n ≤ 24) (hF : ∀ j, F j < 10) (hB : Bd6 D0 D1 L0 L1 G0 G1) : ZMi l yX5_compareCouples cX5_compareCouples 3 (some .int) rmX5_compareCouples E [.ref h0, .int x, .int y] [(h0, ob 5 [.ref hS, .ref hH, .ref hC, .ref hG, .ref hR]), (hS, ob 4 [.ref q, .int (nI n)]), (q, ia E 96 (nA F)), (hC, ob 1 [.ref qp, .ref qd, .ref ql, .ref qg, .int (nI mm)]), (qp, ia E 100 P), (qd, ra E d0 d1), (d0, ia E 24 (nA D0)), (d1, ia E 24 (nA D1)), (ql, ra E l0 l1), (l0, ia E 24 (nA L0)), (l1, ia E 24 (nA L1)), (qg, ra E g0 g1), (g0, ia E 24 (nA G0)), (g1, ia E 24 (nA G1))] (S := (Nat → Nat) × (Nat → Nat) × (Nat → Nat) × (Nat → Nat) × (Nat → Nat) × (Nat → Nat)) (fun r u => r = cmpR x y (rk (hasP F n) 100) (erl u.1 u.2.1 u.2.2.1 u.2.2.2.1 u.2.2.2.2.1 u.2.2.2.2.2) ∧ Cpl F n n u.1 u.2.1 u.2.2.1 u.2.2.2.1 u.2.2.2.2.1 u.2.2.2.2.2 ∧ Bd6 u.1 u.2.1 u.2.2.1 u.2.2.2.1 u.2.2.2.2.1 u.2.2.2.2.2) (fun u => [(h0, ob 5 [.ref hS, .ref hH, .ref hC, .ref hG, .ref hR]), (hS, ob 4 [.ref q, .int (nI n)]), (q, ia E 96 (nA F)), (hC, ob 1 [.ref qp, .ref qd, .ref ql, .ref qg, .int (nI (rk (hasP F n) 100))]), (qp, ia E 100 (numb (hasP F n) 100)), (qd, ra E d0 d1), (d0, ia E 24 (nA u.1)), (d1, ia E 24 (nA u.2.1)), (ql, ra E l0 l1), (l0, ia E 24 (nA u.2.2.1)), (l1, ia E 24 (nA u.2.2.2.1)), (qg, ra E g0 g1), (g0, ia E 24 (nA u.2.2.2.2.1)), (g1, ia E 24 (nA u.2.2.2.2.2))]) := by
  refine z_mi (by decide) (Nat.le_of_ble_eq_true rfl) ?_
  intro p e s m args below meth c A Q ls cx hin hw hl ret
  obtain ⟨hx, hb, hml, hown, hts, hK, hN, hA, hlk⟩ := id cx
  have hl : lv_has ls 3 [(0, .ref h0), (1, .int x), (2, .int y)] := hl
  refine lv_aload_n hx hb dX5_compareCouples_0 rfl (lv_at hl 0 rfl) ?_
  refine z_get cx hw 0 2 rfl rfl inlX5 (by decide) wd_23 rfl dX5_compareCouples_1 ?_
  refine lv_aload_n hx hb dX5_compareCouples_4 rfl (lv_at hl 0 rfl) ?_
  refine z_get cx hw 0 0 rfl rfl inlX5 (by decide) wd_15 rfl dX5_compareCouples_5 ?_
  refine z_rv0 (wr := [(h0, ob 5 [.ref hS, .ref hH, .ref hC, .ref hG, .ref hR])]) cx hw [3, 4, 5, 6, 7, 8, 9, 10, 11, 12, 13, 1, 2] [0] rfl rfl (by decide) (by decide) rfl rfl (z_runVN (As := [.ref hS]) (rest := []) cx hw rfl rfl [3, 4, 5, 6, 7, 8, 9, 10, 11, 12, 13, 1, 2] rfl rfl (c_X1_list l E hC qp qd d0 d1 ql l0 l1 qg g0 g1 P D0 D1 L0 L1 G0 G1 mm hS q F n (by omega) (hF) (hB) s.heap.size) mf_X1_list (nm_X5_101 hN) ⟨Nat.le_of_ble_eq_true rfl, Nat.le_of_ble_eq_true rfl⟩ hl (Nat.le_of_ble_eq_true rfl) dX5_compareCouples_8 ⟨Nat.le_of_ble_eq_true rfl, Nat.le_of_ble_eq_true rfl⟩) (fun u H locs hp hw => ?_)
  obtain ⟨D0, D1, L0, L1, G0, G1⟩ := u
  have hp_8 : Cpl F n n D0 D1 L0 L1 G0 G1 ∧ Bd6 D0 D1 L0 L1 G0 G1 := hp
  have hw : ZW E A s [(h0, ob 5 [.ref hS, .ref hH, .ref hC, .ref hG, .ref hR]), (hC, ob 1 [.ref qp, .ref qd, .ref ql, .ref qg, .int (nI (rk (hasP F n) 100))]), (qp, ia E 100 (numb (hasP F n) 100)), (qd, ra E d0 d1), (d0, ia E 24 (nA D0)), (d1, ia E 24 (nA D1)), (ql, ra E l0 l1), (l0, ia E 24 (nA L0)), (l1, ia E 24 (nA L1)), (qg, ra E g0 g1), (g0, ia E 24 (nA G0)), (g1, ia E 24 (nA G1)), (hS, ob 4 [.ref q, .int (nI n)]), (q, ia E 96 (nA F))] H locs := hw
  have hmm_ := rk_hasP F n 100
  refine lv_aload_n hx hb dX5_compareCouples_11 rfl (lv_at hl 0 rfl) ?_
  refine z_get cx hw 0 2 rfl rfl inlX5 (by decide) wd_23 rfl dX5_compareCouples_12 ?_
  refine lv_iload_n hx hb dX5_compareCouples_15 rfl (lv_at hl 1 rfl) ?_
  refine z_ri0 (wr := [(h0, ob 5 [.ref hS, .ref hH, .ref hC, .ref hG, .ref hR]), (hS, ob 4 [.ref q, .int (nI n)]), (q, ia E 96 (nA F))]) cx hw [1, 2, 3, 4, 5, 6, 7, 8, 9, 10, 11] [0, 12, 13] rfl rfl (by decide) (by decide) rfl rfl (z_runVN (As := [.int x]) (rest := []) cx hw rfl rfl [1, 2, 3, 4, 5, 6, 7, 8, 9, 10, 11] rfl rfl (c_X1_has l E hC qp qd d0 d1 ql l0 l1 qg g0 g1 (numb (hasP F n) 100) D0 D1 L0 L1 G0 G1 (rk (hasP F n) 100) x (by omega) H.size) mf_X1_has (nm_X5_128 hN) ⟨Nat.le_of_ble_eq_true rfl, Nat.le_of_ble_eq_true rfl⟩ hl (Nat.le_of_ble_eq_true rfl) dX5_compareCouples_16 ⟨Nat.le_of_ble_eq_true rfl, Nat.le_of_ble_eq_true rfl⟩) (fun r _ H locs hp hw => ?_)
  have hr_16 := hp
  have hr_16 : r = bI (inR x (rk (hasP F n) 100)) := hr_16
  subst hr_16
  have hw : ZW E A s [(h0, ob 5 [.ref hS, .ref hH, .ref hC, .ref hG, .ref hR]), (hS, ob 4 [.ref q, .int (nI n)]), (q, ia E 96 (nA F)), (hC, ob 1 [.ref qp, .ref qd, .ref ql, .ref qg, .int (nI (rk (hasP F n) 100))]), (qp, ia E 100 (numb (hasP F n) 100)), (qd, ra E d0 d1), (d0, ia E 24 (nA D0)), (d1, ia E 24 (nA D1)), (ql, ra E l0 l1), (l0, ia E 24 (nA L0)), (l1, ia E 24 (nA L1)), (qg, ra E g0 g1), (g0, ia E 24 (nA G0)), (g1, ia E 24 (nA G1))] H locs := hw
  refine z_ifb_eq hx hb 38 dX5_compareCouples_19 (by decide) (fun c_19 => ?_) (fun c_19 => ?_)
  · refine lv_iconst (v := (-1)) hx hb dX5_compareCouples_38 (by decide) ?_
    exact ret ((-1)) (D0, D1, L0, L1, G0, G1) 39 ls H locs dX5_compareCouples_39 (⟨by rw [cmpR, if_neg (fun z => by rw [c_19] at z; exact absurd z.1 (by decide))], hp_8⟩) (hw)
  · obtain ⟨k, hk, rfl⟩ := inR_get c_19 (by omega)
    refine lv_aload_n hx hb dX5_compareCouples_22 rfl (lv_at hl 0 rfl) ?_
    refine z_get cx hw 0 2 rfl rfl inlX5 (by decide) wd_23 rfl dX5_compareCouples_23 ?_
    refine lv_iload_n hx hb dX5_compareCouples_26 rfl (lv_at hl 2 rfl) ?_
    refine z_ri0 (wr := [(h0, ob 5 [.ref hS, .ref hH, .ref hC, .ref hG, .ref hR]), (hS, ob 4 [.ref q, .int (nI n)]), (q, ia E 96 (nA F))]) cx hw [3, 4, 5, 6, 7, 8, 9, 10, 11, 12, 13] [0, 1, 2] rfl rfl (by decide) (by decide) rfl rfl (z_runVN (As := [.int y]) (rest := []) cx hw rfl rfl [3, 4, 5, 6, 7, 8, 9, 10, 11, 12, 13] rfl rfl (c_X1_has l E hC qp qd d0 d1 ql l0 l1 qg g0 g1 (numb (hasP F n) 100) D0 D1 L0 L1 G0 G1 (rk (hasP F n) 100) y (by omega) H.size) mf_X1_has (nm_X5_128 hN) ⟨Nat.le_of_ble_eq_true rfl, Nat.le_of_ble_eq_true rfl⟩ hl (Nat.le_of_ble_eq_true rfl) dX5_compareCouples_27 ⟨Nat.le_of_ble_eq_true rfl, Nat.le_of_ble_eq_true rfl⟩) (fun r _ H locs hp hw => ?_)
    have hr_27 := hp
    have hr_27 : r = bI (inR y (rk (hasP F n) 100)) := hr_27
    subst hr_27
    have hw : ZW E A s [(h0, ob 5 [.ref hS, .ref hH, .ref hC, .ref hG, .ref hR]), (hS, ob 4 [.ref q, .int (nI n)]), (q, ia E 96 (nA F)), (hC, ob 1 [.ref qp, .ref qd, .ref ql, .ref qg, .int (nI (rk (hasP F n) 100))]), (qp, ia E 100 (numb (hasP F n) 100)), (qd, ra E d0 d1), (d0, ia E 24 (nA D0)), (d1, ia E 24 (nA D1)), (ql, ra E l0 l1), (l0, ia E 24 (nA L0)), (l1, ia E 24 (nA L1)), (qg, ra E g0 g1), (g0, ia E 24 (nA G0)), (g1, ia E 24 (nA G1))] H locs := hw
    refine z_ifb_eq hx hb 38 dX5_compareCouples_30 (by decide) (fun c_30 => ?_) (fun c_30 => ?_)
    · refine lv_iconst (v := (-1)) hx hb dX5_compareCouples_38 (by decide) ?_
      exact ret ((-1)) (D0, D1, L0, L1, G0, G1) 39 ls H locs dX5_compareCouples_39 (⟨by rw [cmpR, if_neg (fun z => by rw [c_30] at z; exact absurd z.2.1 (by decide))], hp_8⟩) (hw)
    · obtain ⟨k2, hk2, rfl⟩ := inR_get c_30 (by omega)
      refine lv_iload_n hx hb dX5_compareCouples_33 rfl (lv_at hl 1 rfl) ?_
      refine lv_iload_n hx hb dX5_compareCouples_34 rfl (lv_at hl 2 rfl) ?_
      refine z_icmp_ne hx hb (by omega) (by omega) 40 dX5_compareCouples_35 (by decide) (fun c_35 => ?_) (fun c_35 => ?_)
      · refine lv_aload_n hx hb dX5_compareCouples_40 rfl (lv_at hl 0 rfl) ?_
        refine z_get cx hw 0 2 rfl rfl inlX5 (by decide) wd_23 rfl dX5_compareCouples_41 ?_
        refine lv_iload_n hx hb dX5_compareCouples_44 rfl (lv_at hl 1 rfl) ?_
        refine lv_iload_n hx hb dX5_compareCouples_45 rfl (lv_at hl 2 rfl) ?_
        refine z_ri0 (wr := [(h0, ob 5 [.ref hS, .ref hH, .ref hC, .ref hG, .ref hR]), (hS, ob 4 [.ref q, .int (nI n)]), (q, ia E 96 (nA F))]) cx hw [3, 4, 5, 6, 7, 8, 9, 10, 11, 12, 13] [0, 1, 2] rfl rfl (by decide) (by decide) rfl rfl (z_runVN (As := [.int (nI k), .int (nI k2)]) (rest := []) cx hw rfl rfl [3, 4, 5, 6, 7, 8, 9, 10, 11, 12, 13] rfl rfl (c_X1_isEarlier l E hC qp qd d0 d1 ql l0 l1 qg g0 g1 (numb (hasP F n) 100) D0 D1 L0 L1 G0 G1 (rk (hasP F n) 100) k k2 (by omega) (by omega) (hp_8.2) H.size) mf_X1_isEarlier (nm_X5_129 hN) ⟨Nat.le_of_ble_eq_true rfl, Nat.le_of_ble_eq_true rfl⟩ hl (Nat.le_of_ble_eq_true rfl) dX5_compareCouples_46 ⟨Nat.le_of_ble_eq_true rfl, Nat.le_of_ble_eq_true rfl⟩) (fun r _ H locs hp hw => ?_)
        have hr_46 := hp
        have hr_46 : r = bI (erl D0 D1 L0 L1 G0 G1 k k2) := hr_46
        subst hr_46
        have hw : ZW E A s [(h0, ob 5 [.ref hS, .ref hH, .ref hC, .ref hG, .ref hR]), (hS, ob 4 [.ref q, .int (nI n)]), (q, ia E 96 (nA F)), (hC, ob 1 [.ref qp, .ref qd, .ref ql, .ref qg, .int (nI (rk (hasP F n) 100))]), (qp, ia E 100 (numb (hasP F n) 100)), (qd, ra E d0 d1), (d0, ia E 24 (nA D0)), (d1, ia E 24 (nA D1)), (ql, ra E l0 l1), (l0, ia E 24 (nA L0)), (l1, ia E 24 (nA L1)), (qg, ra E g0 g1), (g0, ia E 24 (nA G0)), (g1, ia E 24 (nA G1))] H locs := hw
        refine z_ifb_eq hx hb 54 dX5_compareCouples_49 (by decide) (fun c_49 => ?_) (fun c_49 => ?_)
        · refine lv_aload_n hx hb dX5_compareCouples_54 rfl (lv_at hl 0 rfl) ?_
          refine z_get cx hw 0 2 rfl rfl inlX5 (by decide) wd_23 rfl dX5_compareCouples_55 ?_
          refine lv_iload_n hx hb dX5_compareCouples_58 rfl (lv_at hl 2 rfl) ?_
          refine lv_iload_n hx hb dX5_compareCouples_59 rfl (lv_at hl 1 rfl) ?_
          refine z_ri0 (wr := [(h0, ob 5 [.ref hS, .ref hH, .ref hC, .ref hG, .ref hR]), (hS, ob 4 [.ref q, .int (nI n)]), (q, ia E 96 (nA F))]) cx hw [3, 4, 5, 6, 7, 8, 9, 10, 11, 12, 13] [0, 1, 2] rfl rfl (by decide) (by decide) rfl rfl (z_runVN (As := [.int (nI k2), .int (nI k)]) (rest := []) cx hw rfl rfl [3, 4, 5, 6, 7, 8, 9, 10, 11, 12, 13] rfl rfl (c_X1_isEarlier l E hC qp qd d0 d1 ql l0 l1 qg g0 g1 (numb (hasP F n) 100) D0 D1 L0 L1 G0 G1 (rk (hasP F n) 100) k2 k (by omega) (by omega) (hp_8.2) H.size) mf_X1_isEarlier (nm_X5_129 hN) ⟨Nat.le_of_ble_eq_true rfl, Nat.le_of_ble_eq_true rfl⟩ hl (Nat.le_of_ble_eq_true rfl) dX5_compareCouples_60 ⟨Nat.le_of_ble_eq_true rfl, Nat.le_of_ble_eq_true rfl⟩) (fun r _ H locs hp hw => ?_)
          have hr_60 := hp
          have hr_60 : r = bI (erl D0 D1 L0 L1 G0 G1 k2 k) := hr_60
          subst hr_60
          have hw : ZW E A s [(h0, ob 5 [.ref hS, .ref hH, .ref hC, .ref hG, .ref hR]), (hS, ob 4 [.ref q, .int (nI n)]), (q, ia E 96 (nA F)), (hC, ob 1 [.ref qp, .ref qd, .ref ql, .ref qg, .int (nI (rk (hasP F n) 100))]), (qp, ia E 100 (numb (hasP F n) 100)), (qd, ra E d0 d1), (d0, ia E 24 (nA D0)), (d1, ia E 24 (nA D1)), (ql, ra E l0 l1), (l0, ia E 24 (nA L0)), (l1, ia E 24 (nA L1)), (qg, ra E g0 g1), (g0, ia E 24 (nA G0)), (g1, ia E 24 (nA G1))] H locs := hw
          refine z_ifb_eq hx hb 70 dX5_compareCouples_63 (by decide) (fun c_63 => ?_) (fun c_63 => ?_)
          · refine lv_iconst (v := nI 0) hx hb dX5_compareCouples_70 (by decide) ?_
            exact ret (nI 0) (D0, D1, L0, L1, G0, G1) 71 ls H locs dX5_compareCouples_71 (⟨by rw [cmpR, if_pos ⟨c_19, c_30, by rw [cl_nI hk (by omega), cl_nI hk2 (by omega)]; exact c_35⟩, cl_nI hk (by omega), cl_nI hk2 (by omega), if_neg (by rw [c_49]; decide), if_neg (by rw [c_63]; decide)], hp_8⟩) (hw)
          · refine lv_iconst (v := nI 2) hx hb dX5_compareCouples_66 (by decide) ?_
            refine lv_goto (tgt := 71) hx hb dX5_compareCouples_67 (by decide) ?_
            exact ret (nI 2) (D0, D1, L0, L1, G0, G1) 71 ls H locs dX5_compareCouples_71 (⟨by rw [cmpR, if_pos ⟨c_19, c_30, by rw [cl_nI hk (by omega), cl_nI hk2 (by omega)]; exact c_35⟩, cl_nI hk (by omega), cl_nI hk2 (by omega), if_neg (by rw [c_49]; decide), if_pos c_63], hp_8⟩) (hw)
        · refine lv_iconst (v := nI 1) hx hb dX5_compareCouples_52 (by decide) ?_
          exact ret (nI 1) (D0, D1, L0, L1, G0, G1) 53 ls H locs dX5_compareCouples_53 (⟨by rw [cmpR, if_pos ⟨c_19, c_30, by rw [cl_nI hk (by omega), cl_nI hk2 (by omega)]; exact c_35⟩, cl_nI hk (by omega), cl_nI hk2 (by omega), if_pos c_49], hp_8⟩) (hw)
      · refine lv_iconst (v := (-1)) hx hb dX5_compareCouples_38 (by decide) ?_
        exact ret ((-1)) (D0, D1, L0, L1, G0, G1) 39 ls H locs dX5_compareCouples_39 (⟨by rw [cmpR, if_neg (fun z => z.2.2 (by rw [cl_nI hk (by omega), cl_nI hk2 (by omega)]; exact c_35))], hp_8⟩) (hw)

def rmX5_isConsistent : Room := { frames := 4, cells := 0, slots := 0, locals := 91 }
set_option maxHeartbeats 4000000 in
set_option maxRecDepth 100000 in
theorem c_X5_isConsistent (l : Launch) (E : ZE) (h0 hS hH hC hG hR : Nat) (q : Nat) (F : Nat → Nat) (n : Nat) (qp qd d0 d1 ql l0 l1 qg g0 g1 : Nat) (P : Nat → Int32) (D0 D1 L0 L1 G0 G1 : Nat → Nat) (mm : Nat) (qo qe qw : Nat) (OR DP : Nat → Nat) (WF : Nat → Int32) (hn : n ≤ 24) (hF : ∀ j, F j < 10) (hB : Bd6 D0 D1 L0 L1 G0 G1) : ZMi l yX5_isConsistent cX5_isConsistent 1 (some .int) rmX5_isConsistent E [.ref h0] [(h0, ob 5 [.ref hS, .ref hH, .ref hC, .ref hG, .ref hR]), (hS, ob 4 [.ref q, .int (nI n)]), (q, ia E 96 (nA F)), (hC, ob 1 [.ref qp, .ref qd, .ref ql, .ref qg, .int (nI mm)]), (qp, ia E 100 P), (qd, ra E d0 d1), (d0, ia E 24 (nA D0)), (d1, ia E 24 (nA D1)), (ql, ra E l0 l1), (l0, ia E 24 (nA L0)), (l1, ia E 24 (nA L1)), (qg, ra E g0 g1), (g0, ia E 24 (nA G0)), (g1, ia E 24 (nA G1)), (hR, ob 0 [.ref qo, .ref qe, .ref qw]), (qo, ia E 24 (nA OR)), (qe, ia E 24 (nA DP)), (qw, ia E 24 WF)] (S := (Nat → Nat) × (Nat → Nat) × (Nat → Nat) × (Nat → Nat) × (Nat → Nat) × (Nat → Nat) × (Nat → Int32) × (Nat → Nat) × (Nat → Nat)) (fun r u => r = bI ((arS (erl u.1 u.2.1 u.2.2.1 u.2.2.2.1 u.2.2.2.2.1 u.2.2.2.2.2.1) (rk (hasP F n) 100) OR (rk (hasP F n) 100)).isSome) ∧ Cpl F n n u.1 u.2.1 u.2.2.1 u.2.2.2.1 u.2.2.2.2.1 u.2.2.2.2.2.1 ∧ Bd6 u.1 u.2.1 u.2.2.1 u.2.2.2.1 u.2.2.2.2.1 u.2.2.2.2.2.1) (fun u => [(h0, ob 5 [.ref hS, .ref hH, .ref hC, .ref hG, .ref hR]), (hS, ob 4 [.ref q, .int (nI n)]), (q, ia E 96 (nA F)), (hC, ob 1 [.ref qp, .ref qd, .ref ql, .ref qg, .int (nI (rk (hasP F n) 100))]), (qp, ia E 100 (numb (hasP F n) 100)), (qd, ra E d0 d1), (d0, ia E 24 (nA u.1)), (d1, ia E 24 (nA u.2.1)), (ql, ra E l0 l1), (l0, ia E 24 (nA u.2.2.1)), (l1, ia E 24 (nA u.2.2.2.1)), (qg, ra E g0 g1), (g0, ia E 24 (nA u.2.2.2.2.1)), (g1, ia E 24 (nA u.2.2.2.2.2.1)), (hR, ob 0 [.ref qo, .ref qe, .ref qw]), (qo, ia E 24 (nA u.2.2.2.2.2.2.2.1)), (qe, ia E 24 (nA u.2.2.2.2.2.2.2.2)), (qw, ia E 24 u.2.2.2.2.2.2.1)]) := by
  refine z_mi (by decide) (Nat.le_of_ble_eq_true rfl) ?_
  intro p e s m args below meth c A Q ls cx hin hw hl ret
  obtain ⟨hx, hb, hml, hown, hts, hK, hN, hA, hlk⟩ := id cx
  have hl : lv_has ls 1 [(0, .ref h0)] := hl
  refine lv_aload_n hx hb dX5_isConsistent_0 rfl (lv_at hl 0 rfl) ?_
  refine z_get cx hw 0 2 rfl rfl inlX5 (by decide) wd_23 rfl dX5_isConsistent_1 ?_
  refine lv_aload_n hx hb dX5_isConsistent_4 rfl (lv_at hl 0 rfl) ?_
  refine z_get cx hw 0 0 rfl rfl inlX5 (by decide) wd_15 rfl dX5_isConsistent_5 ?_
  refine z_rv0 (wr := [(h0, ob 5 [.ref hS, .ref hH, .ref hC, .ref hG, .ref hR]), (hR, ob 0 [.ref qo, .ref qe, .ref qw]), (qo, ia E 24 (nA OR)), (qe, ia E 24 (nA DP)), (qw, ia E 24 WF)]) cx hw [3, 4, 5, 6, 7, 8, 9, 10, 11, 12, 13, 1, 2] [0, 14, 15, 16, 17] rfl rfl (by decide) (by decide) rfl rfl (z_runVN (As := [.ref hS]) (rest := []) cx hw rfl rfl [3, 4, 5, 6, 7, 8, 9, 10, 11, 12, 13, 1, 2] rfl rfl (c_X1_list l E hC qp qd d0 d1 ql l0 l1 qg g0 g1 P D0 D1 L0 L1 G0 G1 mm hS q F n (by omega) (hF) (hB) s.heap.size) mf_X1_list (nm_X5_101 hN) ⟨Nat.le_of_ble_eq_true rfl, Nat.le_of_ble_eq_true rfl⟩ hl (Nat.le_of_ble_eq_true rfl) dX5_isConsistent_8 ⟨Nat.le_of_ble_eq_true rfl, Nat.le_of_ble_eq_true rfl⟩) (fun u H locs hp hw => ?_)
  obtain ⟨D0, D1, L0, L1, G0, G1⟩ := u
  have hp_8 : Cpl F n n D0 D1 L0 L1 G0 G1 ∧ Bd6 D0 D1 L0 L1 G0 G1 := hp
  have hw : ZW E A s [(h0, ob 5 [.ref hS, .ref hH, .ref hC, .ref hG, .ref hR]), (hR, ob 0 [.ref qo, .ref qe, .ref qw]), (qo, ia E 24 (nA OR)), (qe, ia E 24 (nA DP)), (qw, ia E 24 WF), (hC, ob 1 [.ref qp, .ref qd, .ref ql, .ref qg, .int (nI (rk (hasP F n) 100))]), (qp, ia E 100 (numb (hasP F n) 100)), (qd, ra E d0 d1), (d0, ia E 24 (nA D0)), (d1, ia E 24 (nA D1)), (ql, ra E l0 l1), (l0, ia E 24 (nA L0)), (l1, ia E 24 (nA L1)), (qg, ra E g0 g1), (g0, ia E 24 (nA G0)), (g1, ia E 24 (nA G1)), (hS, ob 4 [.ref q, .int (nI n)]), (q, ia E 96 (nA F))] H locs := hw
  have hmm_ := rk_hasP F n 100
  refine lv_aload_n hx hb dX5_isConsistent_11 rfl (lv_at hl 0 rfl) ?_
  refine z_get cx hw 0 4 rfl rfl inlX5 (by decide) wd_31 rfl dX5_isConsistent_12 ?_
  refine lv_aload_n hx hb dX5_isConsistent_15 rfl (lv_at hl 0 rfl) ?_
  refine z_get cx hw 0 2 rfl rfl inlX5 (by decide) wd_23 rfl dX5_isConsistent_16 ?_
  refine z_ri0 (wr := [(h0, ob 5 [.ref hS, .ref hH, .ref hC, .ref hG, .ref hR]), (hS, ob 4 [.ref q, .int (nI n)]), (q, ia E 96 (nA F))]) cx hw [1, 2, 3, 4, 5, 6, 7, 8, 9, 10, 11, 12, 13, 14, 15] [0, 16, 17] rfl rfl (by decide) (by decide) rfl rfl (z_runVN (As := [.ref hC]) (rest := []) cx hw rfl rfl [1, 2, 3, 4, 5, 6, 7, 8, 9, 10, 11, 12, 13, 14, 15] rfl rfl (c_X0_arrange l E hR qo qe qw OR DP WF hC qp qd d0 d1 ql l0 l1 qg g0 g1 (numb (hasP F n) 100) D0 D1 L0 L1 G0 G1 (rk (hasP F n) 100) (by omega) (hp_8.2) H.size) mf_X0_arrange (nm_X5_133 hN) ⟨Nat.le_of_ble_eq_true rfl, Nat.le_of_ble_eq_true rfl⟩ hl (Nat.le_of_ble_eq_true rfl) dX5_isConsistent_19 ⟨Nat.le_of_ble_eq_true rfl, Nat.le_of_ble_eq_true rfl⟩) (fun r u H locs hp hw => ?_)
  obtain ⟨W2, O2, DP2⟩ := u
  obtain ⟨hr_19, hp_19⟩ := hp
  have hr_19 : r = bI ((arS (erl D0 D1 L0 L1 G0 G1) (rk (hasP F n) 100) OR (rk (hasP F n) 100)).isSome) := hr_19
  subst hr_19
  have hp_19 : ∀ t, arS (erl D0 D1 L0 L1 G0 G1) (rk (hasP F n) 100) OR (rk (hasP F n) 100) = some t → O2 = t.2.1 ∧ DP2 = t.2.2 := hp_19
  have hw : ZW E A s [(h0, ob 5 [.ref hS, .ref hH, .ref hC, .ref hG, .ref hR]), (hS, ob 4 [.ref q, .int (nI n)]), (q, ia E 96 (nA F)), (hR, ob 0 [.ref qo, .ref qe, .ref qw]), (qo, ia E 24 (nA O2)), (qe, ia E 24 (nA DP2)), (qw, ia E 24 W2), (hC, ob 1 [.ref qp, .ref qd, .ref ql, .ref qg, .int (nI (rk (hasP F n) 100))]), (qp, ia E 100 (numb (hasP F n) 100)), (qd, ra E d0 d1), (d0, ia E 24 (nA D0)), (d1, ia E 24 (nA D1)), (ql, ra E l0 l1), (l0, ia E 24 (nA L0)), (l1, ia E 24 (nA L1)), (qg, ra E g0 g1), (g0, ia E 24 (nA G0)), (g1, ia E 24 (nA G1))] H locs := hw
  refine z_ifb_eq hx hb 29 dX5_isConsistent_22 (by decide) (fun c_22 => ?_) (fun c_22 => ?_)
  · refine lv_iconst (v := nI 0) hx hb dX5_isConsistent_29 (by decide) ?_
    exact ret (nI 0) (D0, D1, L0, L1, G0, G1, W2, O2, DP2) 30 ls H locs dX5_isConsistent_30 (⟨by rw [c_22]; rfl, hp_8⟩) (hw.perm [0, 1, 2, 7, 8, 9, 10, 11, 12, 13, 14, 15, 16, 17, 3, 4, 5, 6] rfl (by decide))
  · refine lv_iconst (v := nI 1) hx hb dX5_isConsistent_25 (by decide) ?_
    refine lv_goto (tgt := 30) hx hb dX5_isConsistent_26 (by decide) ?_
    exact ret (nI 1) (D0, D1, L0, L1, G0, G1, W2, O2, DP2) 30 ls H locs dX5_isConsistent_30 (⟨by rw [c_22]; rfl, hp_8⟩) (hw.perm [0, 1, 2, 7, 8, 9, 10, 11, 12, 13, 14, 15, 16, 17, 3, 4, 5, 6] rfl (by decide))

def rmX5_coupleInOrder : Room := { frames := 4, cells := 0, slots := 0, locals := 91 }
set_option maxHeartbeats 4000000 in
set_option maxRecDepth 100000 in
theorem c_X5_coupleInOrder (l : Launch) (E : ZE) (h0 hS hH hC hG hR : Nat) (q : Nat) (F : Nat → Nat) (n : Nat) (qp qd d0 d1 ql l0 l1 qg g0 g1 : Nat) (P : Nat → Int32) (D0 D1 L0 L1 G0 G1 : Nat → Nat) (mm : Nat) (qo qe qw : Nat) (OR DP : Nat → Nat) (WF : Nat → Int32) (x : Int32) (hn : n ≤ 24) (hF : ∀ j, F j < 10) (hB : Bd6 D0 D1 L0 L1 G0 G1) : ZMi l yX5_coupleInOrder cX5_coupleInOrder 3 (some .int) rmX5_coupleInOrder E [.ref h0, .int x] [(h0, ob 5 [.ref hS, .ref hH, .ref hC, .ref hG, .ref hR]), (hS, ob 4 [.ref q, .int (nI n)]), (q, ia E 96 (nA F)), (hC, ob 1 [.ref qp, .ref qd, .ref ql, .ref qg, .int (nI mm)]), (qp, ia E 100 P), (qd, ra E d0 d1), (d0, ia E 24 (nA D0)), (d1, ia E 24 (nA D1)), (ql, ra E l0 l1), (l0, ia E 24 (nA L0)), (l1, ia E 24 (nA L1)), (qg, ra E g0 g1), (g0, ia E 24 (nA G0)), (g1, ia E 24 (nA G1)), (hR, ob 0 [.ref qo, .ref qe, .ref qw]), (qo, ia E 24 (nA OR)), (qe, ia E 24 (nA DP)), (qw, ia E 24 WF)] (S := (Nat → Nat) × (Nat → Nat) × (Nat → Nat) × (Nat → Nat) × (Nat → Nat) × (Nat → Nat) × (Nat → Int32) × (Nat → Nat) × (Nat → Nat) × (Nat → Nat)) (fun r u => (inR x (rk (hasP F n) 100) = false ∧ r = (if x < 0 then (-1) else (-3)) ∨ inR x (rk (hasP F n) 100) = true ∧ Cpl F n n u.1 u.2.1 u.2.2.1 u.2.2.2.1 u.2.2.2.2.1 u.2.2.2.2.2.1 ∧ (∀ t, arS (erl u.1 u.2.1 u.2.2.1 u.2.2.2.1 u.2.2.2.2.1 u.2.2.2.2.2.1) (rk (hasP F n) 100) OR (rk (hasP F n) 100) = some t → u.2.2.2.2.2.2.2.2.2 = t.2.1) ∧ r = (if (arS (erl u.1 u.2.1 u.2.2.1 u.2.2.2.1 u.2.2.2.2.1 u.2.2.2.2.2.1) (rk (hasP F n) 100) OR (rk (hasP F n) 100)).isSome = true then nI (u.2.2.2.2.2.2.2.2.2 (cl x)) else (-4))) ∧ Bd6 u.1 u.2.1 u.2.2.1 u.2.2.2.1 u.2.2.2.2.1 u.2.2.2.2.2.1) (fun u => [(h0, ob 5 [.ref hS, .ref hH, .ref hC, .ref hG, .ref hR]), (hS, ob 4 [.ref q, .int (nI n)]), (q, ia E 96 (nA F)), (hC, ob 1 [.ref qp, .ref qd, .ref ql, .ref qg, .int (nI (rk (hasP F n) 100))]), (qp, ia E 100 (numb (hasP F n) 100)), (qd, ra E d0 d1), (d0, ia E 24 (nA u.1)), (d1, ia E 24 (nA u.2.1)), (ql, ra E l0 l1), (l0, ia E 24 (nA u.2.2.1)), (l1, ia E 24 (nA u.2.2.2.1)), (qg, ra E g0 g1), (g0, ia E 24 (nA u.2.2.2.2.1)), (g1, ia E 24 (nA u.2.2.2.2.2.1)), (hR, ob 0 [.ref qo, .ref qe, .ref qw]), (qo, ia E 24 (nA u.2.2.2.2.2.2.2.1)), (qe, ia E 24 (nA u.2.2.2.2.2.2.2.2.1)), (qw, ia E 24 u.2.2.2.2.2.2.1)]) := by
  refine z_mi (by decide) (Nat.le_of_ble_eq_true rfl) ?_
  intro p e s m args below meth c A Q ls cx hin hw hl ret
  obtain ⟨hx, hb, hml, hown, hts, hK, hN, hA, hlk⟩ := id cx
  have hl : lv_has ls 3 [(0, .ref h0), (1, .int x)] := hl
  refine lv_aload_n hx hb dX5_coupleInOrder_0 rfl (lv_at hl 0 rfl) ?_
  refine z_get cx hw 0 2 rfl rfl inlX5 (by decide) wd_23 rfl dX5_coupleInOrder_1 ?_
  refine lv_aload_n hx hb dX5_coupleInOrder_4 rfl (lv_at hl 0 rfl) ?_
  refine z_get cx hw 0 0 rfl rfl inlX5 (by decide) wd_15 rfl dX5_coupleInOrder_5 ?_
  refine z_rv0 (wr := [(h0, ob 5 [.ref hS, .ref hH, .ref hC, .ref hG, .ref hR]), (hR, ob 0 [.ref qo, .ref qe, .ref qw]), (qo, ia E 24 (nA OR)), (qe, ia E 24 (nA DP)), (qw, ia E 24 WF)]) cx hw [3, 4, 5, 6, 7, 8, 9, 10, 11, 12, 13, 1, 2] [0, 14, 15, 16, 17] rfl rfl (by decide) (by decide) rfl rfl (z_runVN (As := [.ref hS]) (rest := []) cx hw rfl rfl [3, 4, 5, 6, 7, 8, 9, 10, 11, 12, 13, 1, 2] rfl rfl (c_X1_list l E hC qp qd d0 d1 ql l0 l1 qg g0 g1 P D0 D1 L0 L1 G0 G1 mm hS q F n (by omega) (hF) (hB) s.heap.size) mf_X1_list (nm_X5_101 hN) ⟨Nat.le_of_ble_eq_true rfl, Nat.le_of_ble_eq_true rfl⟩ hl (Nat.le_of_ble_eq_true rfl) dX5_coupleInOrder_8 ⟨Nat.le_of_ble_eq_true rfl, Nat.le_of_ble_eq_true rfl⟩) (fun u H locs hp hw => ?_)
  obtain ⟨D0, D1, L0, L1, G0, G1⟩ := u
  have hp_8 : Cpl F n n D0 D1 L0 L1 G0 G1 ∧ Bd6 D0 D1 L0 L1 G0 G1 := hp
  have hw : ZW E A s [(h0, ob 5 [.ref hS, .ref hH, .ref hC, .ref hG, .ref hR]), (hR, ob 0 [.ref qo, .ref qe, .ref qw]), (qo, ia E 24 (nA OR)), (qe, ia E 24 (nA DP)), (qw, ia E 24 WF), (hC, ob 1 [.ref qp, .ref qd, .ref ql, .ref qg, .int (nI (rk (hasP F n) 100))]), (qp, ia E 100 (numb (hasP F n) 100)), (qd, ra E d0 d1), (d0, ia E 24 (nA D0)), (d1, ia E 24 (nA D1)), (ql, ra E l0 l1), (l0, ia E 24 (nA L0)), (l1, ia E 24 (nA L1)), (qg, ra E g0 g1), (g0, ia E 24 (nA G0)), (g1, ia E 24 (nA G1)), (hS, ob 4 [.ref q, .int (nI n)]), (q, ia E 96 (nA F))] H locs := hw
  have hmm_ := rk_hasP F n 100
  refine lv_aload_n hx hb dX5_coupleInOrder_11 rfl (lv_at hl 0 rfl) ?_
  refine lv_iload_n hx hb dX5_coupleInOrder_12 rfl (lv_at hl 1 rfl) ?_
  refine z_ri0 (wr := [(hR, ob 0 [.ref qo, .ref qe, .ref qw]), (qo, ia E 24 (nA OR)), (qe, ia E 24 (nA DP)), (qw, ia E 24 WF), (hS, ob 4 [.ref q, .int (nI n)]), (q, ia E 96 (nA F))]) cx hw [0, 5, 6, 7, 8, 9, 10, 11, 12, 13, 14, 15] [1, 2, 3, 4, 16, 17] rfl rfl (by decide) (by decide) rfl rfl (z_runV (As := [.int x]) (rest := []) cx hw rfl rfl [0, 5, 6, 7, 8, 9, 10, 11, 12, 13, 14, 15] rfl rfl (c_X5_errorOfPlace l E h0 hS hH hC hG hR qp qd d0 d1 ql l0 l1 qg g0 g1 (numb (hasP F n) 100) D0 D1 L0 L1 G0 G1 (rk (hasP F n) 100) x (by omega) H.size) mf_X5_errorOfPlace wd_296 ⟨Nat.le_of_ble_eq_true rfl, Nat.le_of_ble_eq_true rfl⟩ hl (Nat.le_of_ble_eq_true rfl) dX5_coupleInOrder_13 ⟨Nat.le_of_ble_eq_true rfl, Nat.le_of_ble_eq_true rfl⟩) (fun r _ H locs hp hw => ?_)
  have hr_13 := hp
  have hr_13 : r = erP x (rk (hasP F n) 100) := hr_13
  subst hr_13
  have hw : ZW E A s [(hR, ob 0 [.ref qo, .ref qe, .ref qw]), (qo, ia E 24 (nA OR)), (qe, ia E 24 (nA DP)), (qw, ia E 24 WF), (hS, ob 4 [.ref q, .int (nI n)]), (q, ia E 96 (nA F)), (h0, ob 5 [.ref hS, .ref hH, .ref hC, .ref hG, .ref hR]), (hC, ob 1 [.ref qp, .ref qd, .ref ql, .ref qg, .int (nI (rk (hasP F n) 100))]), (qp, ia E 100 (numb (hasP F n) 100)), (qd, ra E d0 d1), (d0, ia E 24 (nA D0)), (d1, ia E 24 (nA D1)), (ql, ra E l0 l1), (l0, ia E 24 (nA L0)), (l1, ia E 24 (nA L1)), (qg, ra E g0 g1), (g0, ia E 24 (nA G0)), (g1, ia E 24 (nA G1))] H locs := hw
  refine lv_istore_n (lv' := [(2, .int (erP x (rk (hasP F n) 100))), (0, .ref h0), (1, .int x)]) hx hb dX5_coupleInOrder_16 rfl hl (by decide) rfl (fun ls hl => ?_)
  refine lv_iload_n hx hb dX5_coupleInOrder_17 rfl (lv_at hl 0 rfl) ?_
  refine lv_if_eq (tgt := 23) hx hb dX5_coupleInOrder_18 (by decide) (fun c_18 => ?_) (fun c_18 => ?_)
  · have hI_ : inR x (rk (hasP F n) 100) = true := by
      by_cases g_ : inR x (rk (hasP F n) 100) = true
      · exact g_
      · exact absurd c_18 (by rw [erP]; by_cases h_ : x < 0 <;> simp [h_, g_])
    obtain ⟨k, hk, rfl⟩ := inR_get hI_ (by omega)
    refine lv_aload_n hx hb dX5_coupleInOrder_23 rfl (lv_at hl 1 rfl) ?_
    refine z_get cx hw 6 4 rfl rfl inlX5 (by decide) wd_31 rfl dX5_coupleInOrder_24 ?_
    refine lv_aload_n hx hb dX5_coupleInOrder_27 rfl (lv_at hl 1 rfl) ?_
    refine z_get cx hw 6 2 rfl rfl inlX5 (by decide) wd_23 rfl dX5_coupleInOrder_28 ?_
    refine z_ri0 (wr := [(hS, ob 4 [.ref q, .int (nI n)]), (q, ia E 96 (nA F)), (h0, ob 5 [.ref hS, .ref hH, .ref hC, .ref hG, .ref hR])]) cx hw [0, 1, 2, 3, 7, 8, 9, 10, 11, 12, 13, 14, 15, 16, 17] [4, 5, 6] rfl rfl (by decide) (by decide) rfl rfl (z_runVN (As := [.ref hC]) (rest := []) cx hw rfl rfl [0, 1, 2, 3, 7, 8, 9, 10, 11, 12, 13, 14, 15, 16, 17] rfl rfl (c_X0_arrange l E hR qo qe qw OR DP WF hC qp qd d0 d1 ql l0 l1 qg g0 g1 (numb (hasP F n) 100) D0 D1 L0 L1 G0 G1 (rk (hasP F n) 100) (by omega) (hp_8.2) H.size) mf_X0_arrange (nm_X5_133 hN) ⟨Nat.le_of_ble_eq_true rfl, Nat.le_of_ble_eq_true rfl⟩ hl (Nat.le_of_ble_eq_true rfl) dX5_coupleInOrder_31 ⟨Nat.le_of_ble_eq_true rfl, Nat.le_of_ble_eq_true rfl⟩) (fun r u H locs hp hw => ?_)
    obtain ⟨W2, O2, DP2⟩ := u
    obtain ⟨hr_31, hp_31⟩ := hp
    have hr_31 : r = bI ((arS (erl D0 D1 L0 L1 G0 G1) (rk (hasP F n) 100) OR (rk (hasP F n) 100)).isSome) := hr_31
    subst hr_31
    have hp_31 : ∀ t, arS (erl D0 D1 L0 L1 G0 G1) (rk (hasP F n) 100) OR (rk (hasP F n) 100) = some t → O2 = t.2.1 ∧ DP2 = t.2.2 := hp_31
    have hw : ZW E A s [(hS, ob 4 [.ref q, .int (nI n)]), (q, ia E 96 (nA F)), (h0, ob 5 [.ref hS, .ref hH, .ref hC, .ref hG, .ref hR]), (hR, ob 0 [.ref qo, .ref qe, .ref qw]), (qo, ia E 24 (nA O2)), (qe, ia E 24 (nA DP2)), (qw, ia E 24 W2), (hC, ob 1 [.ref qp, .ref qd, .ref ql, .ref qg, .int (nI (rk (hasP F n) 100))]), (qp, ia E 100 (numb (hasP F n) 100)), (qd, ra E d0 d1), (d0, ia E 24 (nA D0)), (d1, ia E 24 (nA D1)), (ql, ra E l0 l1), (l0, ia E 24 (nA L0)), (l1, ia E 24 (nA L1)), (qg, ra E g0 g1), (g0, ia E 24 (nA G0)), (g1, ia E 24 (nA G1))] H locs := hw
    refine z_ifb_eq hx hb 49 dX5_coupleInOrder_34 (by decide) (fun c_34 => ?_) (fun c_34 => ?_)
    · refine lv_bipush (v := (-4)) hx hb dX5_coupleInOrder_49 (by decide) ?_
      exact ret ((-4)) (D0, D1, L0, L1, G0, G1, W2, O2, DP2, O2) 51 ls H locs dX5_coupleInOrder_51 (⟨Or.inr ⟨hI_, hp_8.1, fun t ht => (hp_31 t ht).1, by rw [c_34, cl_nI hk (by omega)]; rfl⟩, hp_8.2⟩) (hw.perm [2, 0, 1, 7, 8, 9, 10, 11, 12, 13, 14, 15, 16, 17, 3, 4, 5, 6] rfl (by decide))
    · refine lv_aload_n hx hb dX5_coupleInOrder_37 rfl (lv_at hl 1 rfl) ?_
      refine z_get cx hw 2 4 rfl rfl inlX5 (by decide) wd_31 rfl dX5_coupleInOrder_38 ?_
      refine z_getN cx hw 3 0 rfl rfl inlX0 (by decide) (nf_X5_137 hN) rfl dX5_coupleInOrder_41 ?_
      refine lv_iload_n hx hb dX5_coupleInOrder_44 rfl (lv_at hl 2 rfl) ?_
      refine z_aldN cx hw 4 rfl (k) rfl (by omega) (by decide) dX5_coupleInOrder_45 ?_
      refine lv_goto (tgt := 51) hx hb dX5_coupleInOrder_46 (by decide) ?_
      exact ret (nI (O2 k)) (D0, D1, L0, L1, G0, G1, W2, O2, DP2, O2) 51 ls H locs dX5_coupleInOrder_51 (⟨Or.inr ⟨hI_, hp_8.1, fun t ht => (hp_31 t ht).1, by rw [c_34, cl_nI hk (by omega)]; rfl⟩, hp_8.2⟩) (hw.perm [2, 0, 1, 7, 8, 9, 10, 11, 12, 13, 14, 15, 16, 17, 3, 4, 5, 6] rfl (by decide))
  · refine lv_iload_n hx hb dX5_coupleInOrder_21 rfl (lv_at hl 0 rfl) ?_
    have hE_ : inR x (rk (hasP F n) 100) = false := by
      cases g_ : inR x (rk (hasP F n) 100) with
      | false => rfl
      | true => exact absurd (by rw [erP, if_neg (fun q => by rw [inR_neg q] at g_; cases g_), if_pos g_]; rfl) c_18
    exact ret (erP x (rk (hasP F n) 100)) (D0, D1, L0, L1, G0, G1, WF, OR, DP, OR) 22 ls H locs dX5_coupleInOrder_22 (⟨Or.inl ⟨hE_, by rw [erP]; by_cases h_ : x < 0 <;> simp [h_, hE_]⟩, hp_8.2⟩) (hw.perm [6, 4, 5, 7, 8, 9, 10, 11, 12, 13, 14, 15, 16, 17, 0, 1, 2, 3] rfl (by decide))

def rmX5_generation : Room := { frames := 4, cells := 0, slots := 0, locals := 91 }
set_option maxHeartbeats 4000000 in
set_option maxRecDepth 100000 in
theorem c_X5_generation (l : Launch) (E : ZE) (h0 hS hH hC hG hR : Nat) (q : Nat) (F : Nat → Nat) (n : Nat) (qp qd d0 d1 ql l0 l1 qg g0 g1 : Nat) (P : Nat → Int32) (D0 D1 L0 L1 G0 G1 : Nat → Nat) (mm : Nat) (qo qe qw : Nat) (OR DP : Nat → Nat) (WF : Nat → Int32) (x : Int32) (hn : n ≤ 24) (hF : ∀ j, F j < 10) (hB : Bd6 D0 D1 L0 L1 G0 G1) : ZMi l yX5_generation cX5_generation 3 (some .int) rmX5_generation E [.ref h0, .int x] [(h0, ob 5 [.ref hS, .ref hH, .ref hC, .ref hG, .ref hR]), (hS, ob 4 [.ref q, .int (nI n)]), (q, ia E 96 (nA F)), (hC, ob 1 [.ref qp, .ref qd, .ref ql, .ref qg, .int (nI mm)]), (qp, ia E 100 P), (qd, ra E d0 d1), (d0, ia E 24 (nA D0)), (d1, ia E 24 (nA D1)), (ql, ra E l0 l1), (l0, ia E 24 (nA L0)), (l1, ia E 24 (nA L1)), (qg, ra E g0 g1), (g0, ia E 24 (nA G0)), (g1, ia E 24 (nA G1)), (hR, ob 0 [.ref qo, .ref qe, .ref qw]), (qo, ia E 24 (nA OR)), (qe, ia E 24 (nA DP)), (qw, ia E 24 WF)] (S := (Nat → Nat) × (Nat → Nat) × (Nat → Nat) × (Nat → Nat) × (Nat → Nat) × (Nat → Nat) × (Nat → Int32) × (Nat → Nat) × (Nat → Nat) × (Nat → Nat)) (fun r u => (inR x (rk (hasP F n) 100) = false ∧ r = (if x < 0 then (-1) else (-3)) ∨ inR x (rk (hasP F n) 100) = true ∧ Cpl F n n u.1 u.2.1 u.2.2.1 u.2.2.2.1 u.2.2.2.2.1 u.2.2.2.2.2.1 ∧ (∀ t, arS (erl u.1 u.2.1 u.2.2.1 u.2.2.2.1 u.2.2.2.2.1 u.2.2.2.2.2.1) (rk (hasP F n) 100) OR (rk (hasP F n) 100) = some t → u.2.2.2.2.2.2.2.2.2 = t.2.2) ∧ r = (if (arS (erl u.1 u.2.1 u.2.2.1 u.2.2.2.1 u.2.2.2.2.1 u.2.2.2.2.2.1) (rk (hasP F n) 100) OR (rk (hasP F n) 100)).isSome = true then nI (u.2.2.2.2.2.2.2.2.2 (cl x)) else (-4))) ∧ Bd6 u.1 u.2.1 u.2.2.1 u.2.2.2.1 u.2.2.2.2.1 u.2.2.2.2.2.1) (fun u => [(h0, ob 5 [.ref hS, .ref hH, .ref hC, .ref hG, .ref hR]), (hS, ob 4 [.ref q, .int (nI n)]), (q, ia E 96 (nA F)), (hC, ob 1 [.ref qp, .ref qd, .ref ql, .ref qg, .int (nI (rk (hasP F n) 100))]), (qp, ia E 100 (numb (hasP F n) 100)), (qd, ra E d0 d1), (d0, ia E 24 (nA u.1)), (d1, ia E 24 (nA u.2.1)), (ql, ra E l0 l1), (l0, ia E 24 (nA u.2.2.1)), (l1, ia E 24 (nA u.2.2.2.1)), (qg, ra E g0 g1), (g0, ia E 24 (nA u.2.2.2.2.1)), (g1, ia E 24 (nA u.2.2.2.2.2.1)), (hR, ob 0 [.ref qo, .ref qe, .ref qw]), (qo, ia E 24 (nA u.2.2.2.2.2.2.2.1)), (qe, ia E 24 (nA u.2.2.2.2.2.2.2.2.1)), (qw, ia E 24 u.2.2.2.2.2.2.1)]) := by
  refine z_mi (by decide) (Nat.le_of_ble_eq_true rfl) ?_
  intro p e s m args below meth c A Q ls cx hin hw hl ret
  obtain ⟨hx, hb, hml, hown, hts, hK, hN, hA, hlk⟩ := id cx
  have hl : lv_has ls 3 [(0, .ref h0), (1, .int x)] := hl
  refine lv_aload_n hx hb dX5_generation_0 rfl (lv_at hl 0 rfl) ?_
  refine z_get cx hw 0 2 rfl rfl inlX5 (by decide) wd_23 rfl dX5_generation_1 ?_
  refine lv_aload_n hx hb dX5_generation_4 rfl (lv_at hl 0 rfl) ?_
  refine z_get cx hw 0 0 rfl rfl inlX5 (by decide) wd_15 rfl dX5_generation_5 ?_
  refine z_rv0 (wr := [(h0, ob 5 [.ref hS, .ref hH, .ref hC, .ref hG, .ref hR]), (hR, ob 0 [.ref qo, .ref qe, .ref qw]), (qo, ia E 24 (nA OR)), (qe, ia E 24 (nA DP)), (qw, ia E 24 WF)]) cx hw [3, 4, 5, 6, 7, 8, 9, 10, 11, 12, 13, 1, 2] [0, 14, 15, 16, 17] rfl rfl (by decide) (by decide) rfl rfl (z_runVN (As := [.ref hS]) (rest := []) cx hw rfl rfl [3, 4, 5, 6, 7, 8, 9, 10, 11, 12, 13, 1, 2] rfl rfl (c_X1_list l E hC qp qd d0 d1 ql l0 l1 qg g0 g1 P D0 D1 L0 L1 G0 G1 mm hS q F n (by omega) (hF) (hB) s.heap.size) mf_X1_list (nm_X5_101 hN) ⟨Nat.le_of_ble_eq_true rfl, Nat.le_of_ble_eq_true rfl⟩ hl (Nat.le_of_ble_eq_true rfl) dX5_generation_8 ⟨Nat.le_of_ble_eq_true rfl, Nat.le_of_ble_eq_true rfl⟩) (fun u H locs hp hw => ?_)
  obtain ⟨D0, D1, L0, L1, G0, G1⟩ := u
  have hp_8 : Cpl F n n D0 D1 L0 L1 G0 G1 ∧ Bd6 D0 D1 L0 L1 G0 G1 := hp
  have hw : ZW E A s [(h0, ob 5 [.ref hS, .ref hH, .ref hC, .ref hG, .ref hR]), (hR, ob 0 [.ref qo, .ref qe, .ref qw]), (qo, ia E 24 (nA OR)), (qe, ia E 24 (nA DP)), (qw, ia E 24 WF), (hC, ob 1 [.ref qp, .ref qd, .ref ql, .ref qg, .int (nI (rk (hasP F n) 100))]), (qp, ia E 100 (numb (hasP F n) 100)), (qd, ra E d0 d1), (d0, ia E 24 (nA D0)), (d1, ia E 24 (nA D1)), (ql, ra E l0 l1), (l0, ia E 24 (nA L0)), (l1, ia E 24 (nA L1)), (qg, ra E g0 g1), (g0, ia E 24 (nA G0)), (g1, ia E 24 (nA G1)), (hS, ob 4 [.ref q, .int (nI n)]), (q, ia E 96 (nA F))] H locs := hw
  have hmm_ := rk_hasP F n 100
  refine lv_aload_n hx hb dX5_generation_11 rfl (lv_at hl 0 rfl) ?_
  refine lv_iload_n hx hb dX5_generation_12 rfl (lv_at hl 1 rfl) ?_
  refine z_ri0 (wr := [(hR, ob 0 [.ref qo, .ref qe, .ref qw]), (qo, ia E 24 (nA OR)), (qe, ia E 24 (nA DP)), (qw, ia E 24 WF), (hS, ob 4 [.ref q, .int (nI n)]), (q, ia E 96 (nA F))]) cx hw [0, 5, 6, 7, 8, 9, 10, 11, 12, 13, 14, 15] [1, 2, 3, 4, 16, 17] rfl rfl (by decide) (by decide) rfl rfl (z_runV (As := [.int x]) (rest := []) cx hw rfl rfl [0, 5, 6, 7, 8, 9, 10, 11, 12, 13, 14, 15] rfl rfl (c_X5_errorOfPlace l E h0 hS hH hC hG hR qp qd d0 d1 ql l0 l1 qg g0 g1 (numb (hasP F n) 100) D0 D1 L0 L1 G0 G1 (rk (hasP F n) 100) x (by omega) H.size) mf_X5_errorOfPlace wd_296 ⟨Nat.le_of_ble_eq_true rfl, Nat.le_of_ble_eq_true rfl⟩ hl (Nat.le_of_ble_eq_true rfl) dX5_generation_13 ⟨Nat.le_of_ble_eq_true rfl, Nat.le_of_ble_eq_true rfl⟩) (fun r _ H locs hp hw => ?_)
  have hr_13 := hp
  have hr_13 : r = erP x (rk (hasP F n) 100) := hr_13
  subst hr_13
  have hw : ZW E A s [(hR, ob 0 [.ref qo, .ref qe, .ref qw]), (qo, ia E 24 (nA OR)), (qe, ia E 24 (nA DP)), (qw, ia E 24 WF), (hS, ob 4 [.ref q, .int (nI n)]), (q, ia E 96 (nA F)), (h0, ob 5 [.ref hS, .ref hH, .ref hC, .ref hG, .ref hR]), (hC, ob 1 [.ref qp, .ref qd, .ref ql, .ref qg, .int (nI (rk (hasP F n) 100))]), (qp, ia E 100 (numb (hasP F n) 100)), (qd, ra E d0 d1), (d0, ia E 24 (nA D0)), (d1, ia E 24 (nA D1)), (ql, ra E l0 l1), (l0, ia E 24 (nA L0)), (l1, ia E 24 (nA L1)), (qg, ra E g0 g1), (g0, ia E 24 (nA G0)), (g1, ia E 24 (nA G1))] H locs := hw
  refine lv_istore_n (lv' := [(2, .int (erP x (rk (hasP F n) 100))), (0, .ref h0), (1, .int x)]) hx hb dX5_generation_16 rfl hl (by decide) rfl (fun ls hl => ?_)
  refine lv_iload_n hx hb dX5_generation_17 rfl (lv_at hl 0 rfl) ?_
  refine lv_if_eq (tgt := 23) hx hb dX5_generation_18 (by decide) (fun c_18 => ?_) (fun c_18 => ?_)
  · have hI_ : inR x (rk (hasP F n) 100) = true := by
      by_cases g_ : inR x (rk (hasP F n) 100) = true
      · exact g_
      · exact absurd c_18 (by rw [erP]; by_cases h_ : x < 0 <;> simp [h_, g_])
    obtain ⟨k, hk, rfl⟩ := inR_get hI_ (by omega)
    refine lv_aload_n hx hb dX5_generation_23 rfl (lv_at hl 1 rfl) ?_
    refine z_get cx hw 6 4 rfl rfl inlX5 (by decide) wd_31 rfl dX5_generation_24 ?_
    refine lv_aload_n hx hb dX5_generation_27 rfl (lv_at hl 1 rfl) ?_
    refine z_get cx hw 6 2 rfl rfl inlX5 (by decide) wd_23 rfl dX5_generation_28 ?_
    refine z_ri0 (wr := [(hS, ob 4 [.ref q, .int (nI n)]), (q, ia E 96 (nA F)), (h0, ob 5 [.ref hS, .ref hH, .ref hC, .ref hG, .ref hR])]) cx hw [0, 1, 2, 3, 7, 8, 9, 10, 11, 12, 13, 14, 15, 16, 17] [4, 5, 6] rfl rfl (by decide) (by decide) rfl rfl (z_runVN (As := [.ref hC]) (rest := []) cx hw rfl rfl [0, 1, 2, 3, 7, 8, 9, 10, 11, 12, 13, 14, 15, 16, 17] rfl rfl (c_X0_arrange l E hR qo qe qw OR DP WF hC qp qd d0 d1 ql l0 l1 qg g0 g1 (numb (hasP F n) 100) D0 D1 L0 L1 G0 G1 (rk (hasP F n) 100) (by omega) (hp_8.2) H.size) mf_X0_arrange (nm_X5_133 hN) ⟨Nat.le_of_ble_eq_true rfl, Nat.le_of_ble_eq_true rfl⟩ hl (Nat.le_of_ble_eq_true rfl) dX5_generation_31 ⟨Nat.le_of_ble_eq_true rfl, Nat.le_of_ble_eq_true rfl⟩) (fun r u H locs hp hw => ?_)
    obtain ⟨W2, O2, DP2⟩ := u
    obtain ⟨hr_31, hp_31⟩ := hp
    have hr_31 : r = bI ((arS (erl D0 D1 L0 L1 G0 G1) (rk (hasP F n) 100) OR (rk (hasP F n) 100)).isSome) := hr_31
    subst hr_31
    have hp_31 : ∀ t, arS (erl D0 D1 L0 L1 G0 G1) (rk (hasP F n) 100) OR (rk (hasP F n) 100) = some t → O2 = t.2.1 ∧ DP2 = t.2.2 := hp_31
    have hw : ZW E A s [(hS, ob 4 [.ref q, .int (nI n)]), (q, ia E 96 (nA F)), (h0, ob 5 [.ref hS, .ref hH, .ref hC, .ref hG, .ref hR]), (hR, ob 0 [.ref qo, .ref qe, .ref qw]), (qo, ia E 24 (nA O2)), (qe, ia E 24 (nA DP2)), (qw, ia E 24 W2), (hC, ob 1 [.ref qp, .ref qd, .ref ql, .ref qg, .int (nI (rk (hasP F n) 100))]), (qp, ia E 100 (numb (hasP F n) 100)), (qd, ra E d0 d1), (d0, ia E 24 (nA D0)), (d1, ia E 24 (nA D1)), (ql, ra E l0 l1), (l0, ia E 24 (nA L0)), (l1, ia E 24 (nA L1)), (qg, ra E g0 g1), (g0, ia E 24 (nA G0)), (g1, ia E 24 (nA G1))] H locs := hw
    refine z_ifb_eq hx hb 49 dX5_generation_34 (by decide) (fun c_34 => ?_) (fun c_34 => ?_)
    · refine lv_bipush (v := (-4)) hx hb dX5_generation_49 (by decide) ?_
      exact ret ((-4)) (D0, D1, L0, L1, G0, G1, W2, O2, DP2, DP2) 51 ls H locs dX5_generation_51 (⟨Or.inr ⟨hI_, hp_8.1, fun t ht => (hp_31 t ht).2, by rw [c_34, cl_nI hk (by omega)]; rfl⟩, hp_8.2⟩) (hw.perm [2, 0, 1, 7, 8, 9, 10, 11, 12, 13, 14, 15, 16, 17, 3, 4, 5, 6] rfl (by decide))
    · refine lv_aload_n hx hb dX5_generation_37 rfl (lv_at hl 1 rfl) ?_
      refine z_get cx hw 2 4 rfl rfl inlX5 (by decide) wd_31 rfl dX5_generation_38 ?_
      refine z_getN cx hw 3 1 rfl rfl inlX0 (by decide) (nf_X5_141 hN) rfl dX5_generation_41 ?_
      refine lv_iload_n hx hb dX5_generation_44 rfl (lv_at hl 2 rfl) ?_
      refine z_aldN cx hw 5 rfl (k) rfl (by omega) (by decide) dX5_generation_45 ?_
      refine lv_goto (tgt := 51) hx hb dX5_generation_46 (by decide) ?_
      exact ret (nI (DP2 k)) (D0, D1, L0, L1, G0, G1, W2, O2, DP2, DP2) 51 ls H locs dX5_generation_51 (⟨Or.inr ⟨hI_, hp_8.1, fun t ht => (hp_31 t ht).2, by rw [c_34, cl_nI hk (by omega)]; rfl⟩, hp_8.2⟩) (hw.perm [2, 0, 1, 7, 8, 9, 10, 11, 12, 13, 14, 15, 16, 17, 3, 4, 5, 6] rfl (by decide))
  · refine lv_iload_n hx hb dX5_generation_21 rfl (lv_at hl 0 rfl) ?_
    have hE_ : inR x (rk (hasP F n) 100) = false := by
      cases g_ : inR x (rk (hasP F n) 100) with
      | false => rfl
      | true => exact absurd (by rw [erP, if_neg (fun q => by rw [inR_neg q] at g_; cases g_), if_pos g_]; rfl) c_18
    exact ret (erP x (rk (hasP F n) 100)) (D0, D1, L0, L1, G0, G1, WF, OR, DP, OR) 22 ls H locs dX5_generation_22 (⟨Or.inl ⟨hE_, by rw [erP]; by_cases h_ : x < 0 <;> simp [h_, hE_]⟩, hp_8.2⟩) (hw.perm [6, 4, 5, 7, 8, 9, 10, 11, 12, 13, 14, 15, 16, 17, 0, 1, 2, 3] rfl (by decide))

