/-! ===== the reference's numbers ===== -/
def shk (Hs : Nat → Nat) (k : Nat) : Nat → Nat := fun j => if j < k then Hs (j + 97) else Hs j
theorem shk_0 (Hs : Nat → Nat) : Hs = shk Hs 0 := by funext j; simp [shk]
theorem shk_at (Hs : Nat → Nat) (k : Nat) : shk Hs k (k + 97) = Hs (k + 97) := by
  simp only [shk]
  rw [if_neg (by omega)]
theorem shk_s (Hs : Nat → Nat) (k : Nat) : updN (shk Hs k) k (Hs (k + 97)) = shk Hs (k + 1) := by
  funext j
  simp only [updN, shk]
  by_cases e : j = k
  · subst e; rw [if_pos rfl, if_pos (by omega)]
  · rw [if_neg e]
    have q : (j < k) ↔ (j < k + 1) := by omega
    simp only [q]
theorem cpyN_0 (F G : Nat → Nat) (sp dp : Nat) : G = cpyN F G sp dp 0 := by
  funext j
  simp only [cpyN]
  rw [if_neg (by omega)]
theorem cpyN_s (F G : Nat → Nat) (sp dp k : Nat) : updN (cpyN F G sp dp k) (dp + k) (F (sp + k)) = cpyN F G sp dp (k + 1) := by
  funext j
  simp only [updN, cpyN]
  by_cases e : j = dp + k
  · subst e
    rw [if_pos rfl, if_pos (by omega)]
    congr 1
    omega
  · rw [if_neg e]
    have q : (dp ≤ j ∧ j < dp + k) ↔ (dp ≤ j ∧ j < dp + (k + 1)) := by omega
    simp only [q]
/-- the history of the reference behind an edit -/
def edH (Nw Hs : Nat → Nat) (ed : Nat) : Nat → Nat := if ed = 5 then cpyN Nw (shk Hs 388) 0 (97 * 4) 97 else cpyN Nw Hs 0 (97 * ed) 97
abbrev MS : Type := (Nat → Nat) × (Nat → Nat) × Nat
def savM (t : MS) (N2 : Nat → Nat) : MS := (N2, edH t.1 t.2.1 t.2.2, incN t.2.2)
def addM (t : MS) (x1 x2 x3 x4 : Int32) : MS := if okA x1 x2 x3 x4 = true ∧ t.1 96 < 24 then savM t (updN (pushF t.1 (t.1 96) (cl x1) (cl x2) (cl x3) (cl x4)) 96 (t.1 96 + 1)) else t
def rmvM (t : MS) (x : Int32) : MS := if inR x (t.1 96) = true then savM t (updN (rmv t.1 (cl x) (t.1 96)) 96 (t.1 96 - 1)) else t
def setM (t : MS) (x sd w : Int32) : MS := if okW (t.1 96) x sd w = true then savM t (updN t.1 (4 * cl x + 2 + cl sd) (cl w)) else t
def mrgM (t : MS) (sd a b : Int32) : MS := if okM sd a b = true ∧ 0 < cnt t.1 (cl sd) (cl a) (t.1 96) then savM t (rep t.1 (cl sd) (cl a) (cl b) (t.1 96)) else t
def undM (t : MS) : MS := if t.2.2 = 0 then t else (fun j => t.2.1 (97 * (t.2.2 - 1) + j), t.2.1, t.2.2 - 1)
def Fm (F : Nat → Nat) : Nat → Nat := fun j => if j < 96 then F j else 0
theorem Fm_lt {F : Nat → Nat} (h : ∀ j, j < 96 → F j < 10) : ∀ j, Fm F j < 10 := by
  intro j
  simp only [Fm]
  split
  · next q => exact h j q
  · omega
theorem cnt_ext {F G : Nat → Nat} {sd a n : Nat} (h : ∀ j, j < 96 → F j = G j) (hs : sd < 2) (hn : n ≤ 24) : cnt F sd a n = cnt G sd a n := by
  induction n with
  | zero => rfl
  | succ n ih => simp only [cnt]; rw [ih (by omega), h (4 * n + sd) (by omega)]
theorem kn_ext {F G : Nat → Nat} {sd n k : Nat} (h : ∀ j, j < 96 → F j = G j) (hs : sd < 2) (hn : n ≤ 24) : kn F sd n k = kn G sd n k := by
  induction k with
  | zero => rfl
  | succ k ih => simp only [kn]; rw [ih, cnt_ext h hs hn]
theorem sg_ext {F G : Nat → Nat} {sd n k : Nat} (h : ∀ j, j < 96 → F j = G j) (hs : sd < 2) (hn : n ≤ 24) : sg F sd n k = sg G sd n k := by
  induction k with
  | zero => rfl
  | succ k ih => simp only [sg]; rw [ih, cnt_ext h hs hn]
theorem wsum_ext {F G : Nat → Nat} {sd a n : Nat} (h : ∀ j, j < 96 → F j = G j) (hs : sd < 2) (hn : n ≤ 24) : wsum F sd a n = wsum G sd a n := by
  induction n with
  | zero => rfl
  | succ n ih => simp only [wsum]; rw [ih (by omega), h (4 * n + sd) (by omega), h (4 * n + 2 + sd) (by omega)]
theorem Fm_eq (F : Nat → Nat) : ∀ j, j < 96 → F j = Fm F j := fun j hj => by simp [Fm, hj]
theorem kn_m {F : Nat → Nat} {sd n : Nat} (h : ∀ j, j < 96 → F j < 10) (hs : sd < 2) (hn : n ≤ 24) : kn F sd n 10 ≤ n := by
  rw [kn_ext (Fm_eq F) hs hn]
  exact kn_n (Fm_lt h) sd n
theorem sg_m {F : Nat → Nat} {sd n : Nat} (h : ∀ j, j < 96 → F j < 10) (hs : sd < 2) (hn : n ≤ 24) : sg F sd n 10 ≤ n := by
  rw [sg_ext (Fm_eq F) hs hn]
  exact sg_n (Fm_lt h) sd n
theorem in_f1 {v a b : Int32} (h : v < a) : false = decide (a ≤ v ∧ v ≤ b) := (decide_eq_false (fun q => absurd q.1 (Int32.not_le.mpr h))).symm
theorem in_f2 {v a b : Int32} (h : b < v) : false = decide (a ≤ v ∧ v ≤ b) := (decide_eq_false (fun q => absurd q.2 (Int32.not_le.mpr h))).symm
theorem in_t {v a b : Int32} (h1 : ¬ v < a) (h2 : ¬ b < v) : true = decide (a ≤ v ∧ v ≤ b) := (decide_eq_true ⟨Int32.not_lt.mp h1, Int32.not_lt.mp h2⟩).symm
theorem rmk_s {F : Nat → Nat} {k n i : Nat} (h1 : 4 * k ≤ i) (h2 : i < 96) : updN (updN (cpyN F F (4 * k + 4) (4 * k) (i - 4 * k)) 96 n) i (F (i + 4)) = updN (cpyN F F (4 * k + 4) (4 * k) (i + 1 - 4 * k)) 96 n := by
  funext j
  simp only [updN, cpyN]
  by_cases e : j = i
  · subst e
    rw [if_pos rfl, if_neg (by omega), if_pos (by omega)]
    congr 1
    omega
  · rw [if_neg e]
    have q : (4 * k ≤ j ∧ j < 4 * k + (i - 4 * k)) ↔ (4 * k ≤ j ∧ j < 4 * k + (i + 1 - 4 * k)) := by omega
    simp only [q]
theorem rep_self {F : Nat → Nat} {sd a b k : Nat} (hs : sd < 4) (h : ¬ F (4 * k + sd) = a) : updN (rep F sd a b k) (4 * k + sd) (F (4 * k + sd)) = rep F sd a b (k + 1) := by
  rw [← rep_ne F a b k hs h]
  funext j
  simp only [updN]
  split
  · next e => rw [e, rep_at]
  · rfl
theorem rep_96 {F : Nat → Nat} {sd a b k : Nat} (h : k ≤ 24) : rep F sd a b k 96 = F 96 := by
  simp only [rep]
  rw [if_neg (by omega)]
/-- the couples of the reference -/
def kd (Nw : Nat → Nat) (v : Nat) : Bool := decide (0 < cnt Nw (v / 10) (v % 10) (Nw 96))
def byM (Lo Hi : Nat → Nat) (a b sd : Nat) : Bool := decide (Hi (24 * sd + a) ≤ Lo (24 * sd + b) ∧ Lo (24 * sd + a) < Hi (24 * sd + b))
def erM (Ob Rv Lo Hi : Nat → Nat) (a b : Nat) : Bool := if a = b then false else if Ob a = Ob b then byM Lo Hi a b 0 else (decide (Rv a = Rv b) && byM Lo Hi a b 1)
def mcatR (x : Int32) (mm : Nat) (D0 D1 : Nat → Nat) : Int32 := catR x mm D0 D1

def rmX6_in : Room := { frames := 0, cells := 0, slots := 0, locals := 0 }
set_option maxHeartbeats 4000000 in
set_option maxRecDepth 100000 in
theorem c_X6_in (l : Launch) (E : ZE) (v a b : Int32)  : ZMi l yX6_in cX6_in 3 (some .boolean) rmX6_in E [.int v, .int a, .int b] [] (S := Unit) (fun r _ => r = bI (decide (a ≤ v ∧ v ≤ b))) (fun _ => []) := by
  refine z_mz (by decide) (Nat.le_of_ble_eq_true rfl) ?_
  intro p e s m args below meth c A Q ls cx hin hw hl ret
  obtain ⟨hx, hb, hml, hown, hts, hK, hN, hA, hlk⟩ := id cx
  have hl : lv_has ls 3 [(0, .int v), (1, .int a), (2, .int b)] := hl
  refine lv_iload_n hx hb dX6_in_0 rfl (lv_at hl 0 rfl) ?_
  refine lv_iload_n hx hb dX6_in_1 rfl (lv_at hl 1 rfl) ?_
  refine lv_icmp_lt (tgt := 14) hx hb dX6_in_2 (by decide) (fun c_2 => ?_) (fun c_2 => ?_)
  · refine lv_iconst (v := nI 0) hx hb dX6_in_14 (by decide) ?_
    exact ret false () 15 ls s.heap [] dX6_in_15 (congrArg bI (by exact in_f1 c_2)) (hw)
  · refine lv_iload_n hx hb dX6_in_5 rfl (lv_at hl 0 rfl) ?_
    refine lv_iload_n hx hb dX6_in_6 rfl (lv_at hl 2 rfl) ?_
    refine lv_icmp_gt (tgt := 14) hx hb dX6_in_7 (by decide) (fun c_7 => ?_) (fun c_7 => ?_)
    · refine lv_iconst (v := nI 0) hx hb dX6_in_14 (by decide) ?_
      exact ret false () 15 ls s.heap [] dX6_in_15 (congrArg bI (by exact in_f2 c_7)) (hw)
    · refine lv_iconst (v := nI 1) hx hb dX6_in_10 (by decide) ?_
      refine lv_goto (tgt := 15) hx hb dX6_in_11 (by decide) ?_
      exact ret true () 15 ls s.heap [] dX6_in_15 (congrArg bI (by exact in_t c_2 c_7)) (hw)

def rmX6_isSpecimen : Room := { frames := 1, cells := 0, slots := 0, locals := 22 }
set_option maxHeartbeats 4000000 in
set_option maxRecDepth 100000 in
theorem c_X6_isSpecimen (l : Launch) (E : ZE) (h0 aN aH aO aR aL aG aT aE aB aV : Nat) (ed mc : Nat) (Nw : Nat → Nat) (x : Int32) (hn : Nw 96 ≤ 24) : ZMi l yX6_isSpecimen cX6_isSpecimen 2 (some .boolean) rmX6_isSpecimen E [.ref h0, .int x] [(h0, ob 6 [.ref aN, .ref aH, .int (nI ed), .int (nI mc), .ref aO, .ref aR, .ref aL, .ref aG, .ref aT, .ref aE, .ref aB, .ref aV]), (aN, ia E 97 (nA Nw))] (S := Unit) (fun r _ => r = bI (inR x (Nw 96))) (fun _ => [(h0, ob 6 [.ref aN, .ref aH, .int (nI ed), .int (nI mc), .ref aO, .ref aR, .ref aL, .ref aG, .ref aT, .ref aE, .ref aB, .ref aV]), (aN, ia E 97 (nA Nw))]) := by
  refine z_mz (by decide) (Nat.le_of_ble_eq_true rfl) ?_
  intro p e s m args below meth c A Q ls cx hin hw hl ret
  obtain ⟨hx, hb, hml, hown, hts, hK, hN, hA, hlk⟩ := id cx
  have hl : lv_has ls 2 [(0, .ref h0), (1, .int x)] := hl
  refine lv_iload_n hx hb dX6_isSpecimen_0 rfl (lv_at hl 1 rfl) ?_
  refine lv_iconst (v := nI 0) hx hb dX6_isSpecimen_1 (by decide) ?_
  refine lv_aload_n hx hb dX6_isSpecimen_2 rfl (lv_at hl 0 rfl) ?_
  refine z_get cx hw 0 0 rfl rfl inlX6 (by decide) wd_70 rfl dX6_isSpecimen_3 ?_
  refine lv_bipush (v := nI 96) hx hb dX6_isSpecimen_6 (by decide) ?_
  refine z_aldN cx hw 1 rfl (96) rfl (by omega) (by decide) dX6_isSpecimen_8 ?_
  refine lv_iconst (v := nI 1) hx hb dX6_isSpecimen_9 (by decide) ?_
  refine lv_isub hx hb dX6_isSpecimen_10 ?_
  refine z_ri0 (wr := [(h0, ob 6 [.ref aN, .ref aH, .int (nI ed), .int (nI mc), .ref aO, .ref aR, .ref aL, .ref aG, .ref aT, .ref aE, .ref aB, .ref aV]), (aN, ia E 97 (nA Nw))]) cx hw [] [0, 1] rfl rfl (by decide) (by decide) rfl rfl (z_runS (As := [.int x, .int (nI 0), .int ((nI (Nw 96)) - (nI 1))]) (rest := []) cx hw [] rfl rfl (c_X6_in l E x (nI 0) ((nI (Nw 96)) - (nI 1))  s.heap.size) mf_X6_in wd_108 ⟨Nat.le_of_ble_eq_true rfl, Nat.le_of_ble_eq_true rfl⟩ hl (Nat.le_of_ble_eq_true rfl) dX6_isSpecimen_11 ⟨Nat.le_of_ble_eq_true rfl, Nat.le_of_ble_eq_true rfl⟩) (fun r _ H locs hp hw => ?_)
  have hr_11 := hp
  have hr_11 : r = bI (decide ((nI 0) ≤ x ∧ x ≤ ((nI (Nw 96)) - (nI 1)))) := hr_11
  subst hr_11
  have hw : ZW E A s [(h0, ob 6 [.ref aN, .ref aH, .int (nI ed), .int (nI mc), .ref aO, .ref aR, .ref aL, .ref aG, .ref aT, .ref aE, .ref aB, .ref aV]), (aN, ia E 97 (nA Nw))] H locs := hw
  rw [show decide (nI 0 ≤ x ∧ x ≤ nI (Nw 96) - nI 1) = inR x (Nw 96) from inR_pred (by omega)]
  exact ret (inR x (Nw 96)) () 14 ls H locs dX6_isSpecimen_14 (rfl) (hw)

def rmX6_isSide : Room := { frames := 1, cells := 0, slots := 0, locals := 22 }
set_option maxHeartbeats 4000000 in
set_option maxRecDepth 100000 in
theorem c_X6_isSide (l : Launch) (E : ZE) (x : Int32)  : ZMi l yX6_isSide cX6_isSide 1 (some .boolean) rmX6_isSide E [.int x] [] (S := Unit) (fun r _ => r = bI (inR x 2)) (fun _ => []) := by
  refine z_mz (by decide) (Nat.le_of_ble_eq_true rfl) ?_
  intro p e s m args below meth c A Q ls cx hin hw hl ret
  obtain ⟨hx, hb, hml, hown, hts, hK, hN, hA, hlk⟩ := id cx
  have hl : lv_has ls 1 [(0, .int x)] := hl
  refine lv_iload_n hx hb dX6_isSide_0 rfl (lv_at hl 0 rfl) ?_
  refine lv_iconst (v := nI 0) hx hb dX6_isSide_1 (by decide) ?_
  refine lv_iconst (v := nI 1) hx hb dX6_isSide_2 (by decide) ?_
  refine z_ri0 (wr := []) cx hw [] [] rfl rfl (by decide) (by decide) rfl rfl (z_runS (As := [.int x, .int (nI 0), .int (nI 1)]) (rest := []) cx hw [] rfl rfl (c_X6_in l E x (nI 0) (nI 1)  s.heap.size) mf_X6_in wd_108 ⟨Nat.le_of_ble_eq_true rfl, Nat.le_of_ble_eq_true rfl⟩ hl (Nat.le_of_ble_eq_true rfl) dX6_isSide_3 ⟨Nat.le_of_ble_eq_true rfl, Nat.le_of_ble_eq_true rfl⟩) (fun r _ H locs hp hw => ?_)
  have hr_3 := hp
  have hr_3 : r = bI (decide ((nI 0) ≤ x ∧ x ≤ (nI 1))) := hr_3
  subst hr_3
  have hw : ZW E A s [] H locs := hw
  rw [show decide (nI 0 ≤ x ∧ x ≤ nI 1) = inR x 2 from inR_le (by decide)]
  exact ret (inR x 2) () 6 ls H locs dX6_isSide_6 (rfl) (hw)

def rmX6_isDie : Room := { frames := 2, cells := 0, slots := 0, locals := 42 }
set_option maxHeartbeats 4000000 in
set_option maxRecDepth 100000 in
theorem c_X6_isDie (l : Launch) (E : ZE) (sd x : Int32)  : ZMi l yX6_isDie cX6_isDie 2 (some .boolean) rmX6_isDie E [.int sd, .int x] [] (S := Unit) (fun r _ => r = bI (inR sd 2 && inR x 10)) (fun _ => []) := by
  refine z_mz (by decide) (Nat.le_of_ble_eq_true rfl) ?_
  intro p e s m args below meth c A Q ls cx hin hw hl ret
  obtain ⟨hx, hb, hml, hown, hts, hK, hN, hA, hlk⟩ := id cx
  have hl : lv_has ls 2 [(0, .int sd), (1, .int x)] := hl
  refine lv_iload_n hx hb dX6_isDie_0 rfl (lv_at hl 0 rfl) ?_
  refine z_ri0 (wr := []) cx hw [] [] rfl rfl (by decide) (by decide) rfl rfl (z_runS (As := [.int sd]) (rest := []) cx hw [] rfl rfl (c_X6_isSide l E sd  s.heap.size) mf_X6_isSide wd_149 ⟨Nat.le_of_ble_eq_true rfl, Nat.le_of_ble_eq_true rfl⟩ hl (Nat.le_of_ble_eq_true rfl) dX6_isDie_1 ⟨Nat.le_of_ble_eq_true rfl, Nat.le_of_ble_eq_true rfl⟩) (fun r _ H locs hp hw => ?_)
  have hr_1 := hp
  have hr_1 : r = bI (inR sd 2) := hr_1
  subst hr_1
  have hw : ZW E A s [] H locs := hw
  refine z_ifb_eq hx hb 21 dX6_isDie_4 (by decide) (fun c_4 => ?_) (fun c_4 => ?_)
  · refine lv_iconst (v := nI 0) hx hb dX6_isDie_21 (by decide) ?_
    exact ret false () 22 ls H locs dX6_isDie_22 (congrArg bI (by simp [c_4])) (hw)
  · refine lv_iload_n hx hb dX6_isDie_7 rfl (lv_at hl 1 rfl) ?_
    refine lv_iconst (v := nI 0) hx hb dX6_isDie_8 (by decide) ?_
    refine lv_bipush (v := nI 9) hx hb dX6_isDie_9 (by decide) ?_
    refine z_ri0 (wr := []) cx hw [] [] rfl rfl (by decide) (by decide) rfl rfl (z_runS (As := [.int x, .int (nI 0), .int (nI 9)]) (rest := []) cx hw [] rfl rfl (c_X6_in l E x (nI 0) (nI 9)  H.size) mf_X6_in wd_108 ⟨Nat.le_of_ble_eq_true rfl, Nat.le_of_ble_eq_true rfl⟩ hl (Nat.le_of_ble_eq_true rfl) dX6_isDie_11 ⟨Nat.le_of_ble_eq_true rfl, Nat.le_of_ble_eq_true rfl⟩) (fun r _ H locs hp hw => ?_)
    have hr_11 := hp
    have hr_11 : r = bI (decide ((nI 0) ≤ x ∧ x ≤ (nI 9))) := hr_11
    subst hr_11
    have hw : ZW E A s [] H locs := hw
    rw [show decide (nI 0 ≤ x ∧ x ≤ nI 9) = inR x 10 from inR_le (by decide)]
    refine z_ifb_eq hx hb 21 dX6_isDie_14 (by decide) (fun c_14 => ?_) (fun c_14 => ?_)
    · refine lv_iconst (v := nI 0) hx hb dX6_isDie_21 (by decide) ?_
      exact ret false () 22 ls H locs dX6_isDie_22 (congrArg bI (by simp [c_4, c_14])) (hw)
    · refine lv_iconst (v := nI 1) hx hb dX6_isDie_17 (by decide) ?_
      refine lv_goto (tgt := 22) hx hb dX6_isDie_18 (by decide) ?_
      exact ret true () 22 ls H locs dX6_isDie_22 (congrArg bI (by simp [c_4, c_14])) (hw)

def rmX6_edit : Room := { frames := 0, cells := 0, slots := 0, locals := 0 }
set_option maxHeartbeats 4000000 in
set_option maxRecDepth 100000 in
theorem c_X6_edit (l : Launch) (E : ZE) (h0 aN aH aO aR aL aG aT aE aB aV : Nat) (ed mc : Nat) (Nw Hs : Nat → Nat) (he : ed ≤ 5) : ZMv l yX6_edit cX6_edit 2 rmX6_edit E [.ref h0] [(h0, ob 6 [.ref aN, .ref aH, .int (nI ed), .int (nI mc), .ref aO, .ref aR, .ref aL, .ref aG, .ref aT, .ref aE, .ref aB, .ref aV]), (aN, ia E 97 (nA Nw)), (aH, ia E 485 (nA Hs))] (S := Unit) (fun _ => True) (fun _ => [(h0, ob 6 [.ref aN, .ref aH, .int (nI (incN ed)), .int (nI mc), .ref aO, .ref aR, .ref aL, .ref aG, .ref aT, .ref aE, .ref aB, .ref aV]), (aN, ia E 97 (nA Nw)), (aH, ia E 485 (nA (edH Nw Hs ed)))]) := by
  refine z_mv (by decide) (Nat.le_of_ble_eq_true rfl) ?_
  intro p e s m args below meth c A Q ls cx hin hw hl ret
  obtain ⟨hx, hb, hml, hown, hts, hK, hN, hA, hlk⟩ := id cx
  have hl : lv_has ls 2 [(0, .ref h0)] := hl
  refine lv_aload_n hx hb dX6_edit_0 rfl (lv_at hl 0 rfl) ?_
  refine z_get cx hw 0 2 rfl rfl inlX6 (by decide) wd_115 rfl dX6_edit_1 ?_
  refine lv_iconst (v := nI 5) hx hb dX6_edit_4 (by decide) ?_
  refine z_icmp_ne hx hb (by omega) (by decide) 48 dX6_edit_5 (by decide) (fun c_5 => ?_) (fun c_5 => ?_)
  · refine lv_iconst (v := nI 0) hx hb dX6_edit_48 (by decide) ?_
    refine lv_istore_n (lv' := [(1, .int (nI 0)), (0, .ref h0)]) hx hb dX6_edit_49 rfl hl (by decide) rfl (fun ls hl => ?_)
    have loop_50 : ∀ (fuel : Nat) (k2 : Nat) (hk2 : k2 ≤ 97) (hm : 97 - k2 < fuel) (H : Heap) (locs : List Loc) (ls : Array Slot), ZW E A s [(h0, ob 6 [.ref aN, .ref aH, .int (nI ed), .int (nI mc), .ref aO, .ref aR, .ref aL, .ref aG, .ref aT, .ref aE, .ref aB, .ref aV]), (aN, ia E 97 (nA Nw)), (aH, ia E 485 (nA (cpyN Nw (Hs) 0 (97 * ed) k2)))] H locs → lv_has ls 2 [(0, .ref h0), (1, .int (nI k2))] → W p l e rmX6_edit s m args below meth c H locs 0 0 Q (F0 m 50 ls []) := by
      intro fuel
      induction fuel with
      | zero => intro k2 hk2 hm; exact absurd hm (Nat.not_lt_zero _)
      | succ fuel ih_50 =>
        intro k2 hk2 hm H locs ls hw hl
        refine lv_iload_n hx hb dX6_edit_50 rfl (lv_at hl 1 rfl) ?_
        refine lv_bipush (v := nI 97) hx hb dX6_edit_51 (by decide) ?_
        refine z_icmp_ge hx hb (by omega) (by decide) 82 dX6_edit_53 (by decide) (fun c_53 => ?_) (fun c_53 => ?_)
        · refine lv_aload_n hx hb dX6_edit_82 rfl (lv_at hl 0 rfl) ?_
          refine lv_dup hx hb dX6_edit_83 rfl ?_
          refine z_get cx hw 0 2 rfl rfl inlX6 (by decide) wd_115 rfl dX6_edit_84 ?_
          refine lv_iconst (v := nI 1) hx hb dX6_edit_87 (by decide) ?_
          refine z_iadd hx hb (ed + 1) rfl dX6_edit_88 ?_
          refine z_put cx hw 0 2 rfl rfl inlX6 tyX6_ok nmX6 (by decide) wd_115 rfl rfl rfl (Nat.le_of_ble_eq_true rfl) dX6_edit_89 (fun H locs hw => ?_)
          have hw : ZW E A s [(h0, ob 6 [.ref aN, .ref aH, .int (nI (ed + 1)), .int (nI mc), .ref aO, .ref aR, .ref aL, .ref aG, .ref aT, .ref aE, .ref aB, .ref aV]), (aN, ia E 97 (nA Nw)), (aH, ia E 485 (nA (cpyN Nw (Hs) 0 (97 * ed) k2)))] H locs := hw
          have e_ : k2 = 97 := by omega
          have e_r92_0 : (ed + 1) = (incN ed) := by rw [incN, if_pos (by omega)]
          have e_r92_1 : (cpyN Nw (Hs) 0 (97 * ed) k2) = (edH Nw Hs ed) := by rw [e_, edH, if_neg c_5]
          exact ret () 92 ls H locs dX6_edit_92 (trivial) ((hw).cast (zc (congrArg (fun z => ((h0, ob 6 [.ref aN, .ref aH, .int (nI z), .int (nI mc), .ref aO, .ref aR, .ref aL, .ref aG, .ref aT, .ref aE, .ref aB, .ref aV]) : Nat × va_E)) e_r92_0) (zc rfl (zc (congrArg (fun z => ((aH, ia E 485 (nA z)) : Nat × va_E)) e_r92_1) rfl))))
        · refine lv_aload_n hx hb dX6_edit_56 rfl (lv_at hl 0 rfl) ?_
          refine z_get cx hw 0 1 rfl rfl inlX6 (by decide) wd_71 rfl dX6_edit_57 ?_
          refine lv_bipush (v := nI 97) hx hb dX6_edit_60 (by decide) ?_
          refine lv_aload_n hx hb dX6_edit_62 rfl (lv_at hl 0 rfl) ?_
          refine z_get cx hw 0 2 rfl rfl inlX6 (by decide) wd_115 rfl dX6_edit_63 ?_
          refine z_imul hx hb (97 * ed) rfl dX6_edit_66 ?_
          refine lv_iload_n hx hb dX6_edit_67 rfl (lv_at hl 1 rfl) ?_
          refine z_iadd hx hb ((97 * ed) + k2) rfl dX6_edit_68 ?_
          refine lv_aload_n hx hb dX6_edit_69 rfl (lv_at hl 0 rfl) ?_
          refine z_get cx hw 0 0 rfl rfl inlX6 (by decide) wd_70 rfl dX6_edit_70 ?_
          refine lv_iload_n hx hb dX6_edit_73 rfl (lv_at hl 1 rfl) ?_
          refine z_aldN cx hw 1 rfl (k2) rfl (by omega) (by decide) dX6_edit_74 ?_
          refine z_astN cx hw 2 rfl ((97 * ed) + k2) rfl (by omega) (by decide) dX6_edit_75 (fun H locs hw => ?_)
          have hw : ZW E A s [(h0, ob 6 [.ref aN, .ref aH, .int (nI ed), .int (nI mc), .ref aO, .ref aR, .ref aL, .ref aG, .ref aT, .ref aE, .ref aB, .ref aV]), (aN, ia E 97 (nA Nw)), (aH, ia E 485 (nA (updN (cpyN Nw (Hs) 0 (97 * ed) k2) ((97 * ed) + k2) (Nw k2))))] H locs := hw
          refine lv_iinc (v := nI (k2 + 1)) (lv' := [(1, .int (nI (k2 + 1))), (0, .ref h0)]) hx hb dX6_edit_76 hl (k := 1) rfl (nI_1 _) (by decide) rfl (fun ls hl => ?_)
          refine lv_goto (tgt := 50) hx hb dX6_edit_79 (by decide) ?_
          have e_b50_0 : (updN (cpyN Nw (Hs) 0 (97 * ed) k2) ((97 * ed) + k2) (Nw k2)) = (cpyN Nw (Hs) 0 (97 * ed) (k2 + 1)) := by rw [← cpyN_s, Nat.zero_add]
          exact ih_50 (k2 + 1) (by omega) (by omega) _ _ ls ((hw).cast (zc rfl (zc rfl (zc (congrArg (fun z => ((aH, ia E 485 (nA z)) : Nat × va_E)) e_b50_0) rfl)))) (lv_add (lv_add (lv_nil hl) (lv_at hl 0 rfl)) (lv_at hl 1 rfl))
    have e_i50_0 : Hs = (cpyN Nw (Hs) 0 (97 * ed) 0) := by rw [← cpyN_0]
    exact loop_50 _ 0 (by omega) (Nat.lt_succ_self _) _ _ ls ((hw).cast (zc rfl (zc rfl (zc (congrArg (fun z => ((aH, ia E 485 (nA z)) : Nat × va_E)) e_i50_0) rfl)))) (lv_add (lv_add (lv_nil hl) (lv_at hl 0 rfl)) (lv_at hl 1 rfl))
  · refine lv_iconst (v := nI 0) hx hb dX6_edit_8 (by decide) ?_
    refine lv_istore_n (lv' := [(1, .int (nI 0)), (0, .ref h0)]) hx hb dX6_edit_9 rfl hl (by decide) rfl (fun ls hl => ?_)
    have loop_10 : ∀ (fuel : Nat) (k : Nat) (hk : k ≤ 388) (hm : 388 - k < fuel) (H : Heap) (locs : List Loc) (ls : Array Slot), ZW E A s [(h0, ob 6 [.ref aN, .ref aH, .int (nI ed), .int (nI mc), .ref aO, .ref aR, .ref aL, .ref aG, .ref aT, .ref aE, .ref aB, .ref aV]), (aN, ia E 97 (nA Nw)), (aH, ia E 485 (nA (shk Hs k)))] H locs → lv_has ls 2 [(0, .ref h0), (1, .int (nI k))] → W p l e rmX6_edit s m args below meth c H locs 0 0 Q (F0 m 10 ls []) := by
      intro fuel
      induction fuel with
      | zero => intro k hk hm; exact absurd hm (Nat.not_lt_zero _)
      | succ fuel ih_10 =>
        intro k hk hm H locs ls hw hl
        refine lv_iload_n hx hb dX6_edit_10 rfl (lv_at hl 1 rfl) ?_
        refine lv_sipush (v := nI 388) hx hb dX6_edit_11 (by decide) ?_
        refine z_icmp_ge hx hb (by omega) (by decide) 38 dX6_edit_14 (by decide) (fun c_14 => ?_) (fun c_14 => ?_)
        · refine lv_aload_n hx hb dX6_edit_38 rfl (lv_at hl 0 rfl) ?_
          refine lv_dup hx hb dX6_edit_39 rfl ?_
          refine z_get cx hw 0 2 rfl rfl inlX6 (by decide) wd_115 rfl dX6_edit_40 ?_
          refine lv_iconst (v := nI 1) hx hb dX6_edit_43 (by decide) ?_
          refine z_isub hx hb (ed - 1) (by omega) rfl dX6_edit_44 ?_
          refine z_put cx hw 0 2 rfl rfl inlX6 tyX6_ok nmX6 (by decide) wd_115 rfl rfl rfl (Nat.le_of_ble_eq_true rfl) dX6_edit_45 (fun H locs hw => ?_)
          have hw : ZW E A s [(h0, ob 6 [.ref aN, .ref aH, .int (nI (ed - 1)), .int (nI mc), .ref aO, .ref aR, .ref aL, .ref aG, .ref aT, .ref aE, .ref aB, .ref aV]), (aN, ia E 97 (nA Nw)), (aH, ia E 485 (nA (shk Hs k)))] H locs := hw
          have e388_ : k = 388 := by omega
          have hw : ZW E A s [(h0, ob 6 [.ref aN, .ref aH, .int (nI 4), .int (nI mc), .ref aO, .ref aR, .ref aL, .ref aG, .ref aT, .ref aE, .ref aB, .ref aV]), (aN, ia E 97 (nA Nw)), (aH, ia E 485 (nA (shk Hs 388)))] H locs := by rw [e388_, show ed - 1 = 4 from by omega] at hw; exact hw
          refine lv_iconst (v := nI 0) hx hb dX6_edit_48 (by decide) ?_
          refine lv_istore_n (lv' := [(1, .int (nI 0)), (0, .ref h0)]) hx hb dX6_edit_49 rfl hl (by decide) rfl (fun ls hl => ?_)
          have loop_50 : ∀ (fuel : Nat) (k2 : Nat) (hk2 : k2 ≤ 97) (hm : 97 - k2 < fuel) (H : Heap) (locs : List Loc) (ls : Array Slot), ZW E A s [(h0, ob 6 [.ref aN, .ref aH, .int (nI 4), .int (nI mc), .ref aO, .ref aR, .ref aL, .ref aG, .ref aT, .ref aE, .ref aB, .ref aV]), (aN, ia E 97 (nA Nw)), (aH, ia E 485 (nA (cpyN Nw (shk Hs 388) 0 (97 * 4) k2)))] H locs → lv_has ls 2 [(0, .ref h0), (1, .int (nI k2))] → W p l e rmX6_edit s m args below meth c H locs 0 0 Q (F0 m 50 ls []) := by
            intro fuel
            induction fuel with
            | zero => intro k2 hk2 hm; exact absurd hm (Nat.not_lt_zero _)
            | succ fuel ih_50 =>
              intro k2 hk2 hm H locs ls hw hl
              refine lv_iload_n hx hb dX6_edit_50 rfl (lv_at hl 1 rfl) ?_
              refine lv_bipush (v := nI 97) hx hb dX6_edit_51 (by decide) ?_
              refine z_icmp_ge hx hb (by omega) (by decide) 82 dX6_edit_53 (by decide) (fun c_53 => ?_) (fun c_53 => ?_)
              · refine lv_aload_n hx hb dX6_edit_82 rfl (lv_at hl 0 rfl) ?_
                refine lv_dup hx hb dX6_edit_83 rfl ?_
                refine z_get cx hw 0 2 rfl rfl inlX6 (by decide) wd_115 rfl dX6_edit_84 ?_
                refine lv_iconst (v := nI 1) hx hb dX6_edit_87 (by decide) ?_
                refine z_iadd hx hb (5) rfl dX6_edit_88 ?_
                refine z_put cx hw 0 2 rfl rfl inlX6 tyX6_ok nmX6 (by decide) wd_115 rfl rfl rfl (Nat.le_of_ble_eq_true rfl) dX6_edit_89 (fun H locs hw => ?_)
                have hw : ZW E A s [(h0, ob 6 [.ref aN, .ref aH, .int (nI 5), .int (nI mc), .ref aO, .ref aR, .ref aL, .ref aG, .ref aT, .ref aE, .ref aB, .ref aV]), (aN, ia E 97 (nA Nw)), (aH, ia E 485 (nA (cpyN Nw (shk Hs 388) 0 (97 * 4) k2)))] H locs := hw
                have e_ : k2 = 97 := by omega
                have e_r92_0 : 5 = (incN ed) := by rw [c_5]; rfl
                have e_r92_1 : (cpyN Nw (shk Hs 388) 0 (97 * 4) k2) = (edH Nw Hs ed) := by rw [e_, edH, if_pos c_5]
                exact ret () 92 ls H locs dX6_edit_92 (trivial) ((hw).cast (zc (congrArg (fun z => ((h0, ob 6 [.ref aN, .ref aH, .int (nI z), .int (nI mc), .ref aO, .ref aR, .ref aL, .ref aG, .ref aT, .ref aE, .ref aB, .ref aV]) : Nat × va_E)) e_r92_0) (zc rfl (zc (congrArg (fun z => ((aH, ia E 485 (nA z)) : Nat × va_E)) e_r92_1) rfl))))
              · refine lv_aload_n hx hb dX6_edit_56 rfl (lv_at hl 0 rfl) ?_
                refine z_get cx hw 0 1 rfl rfl inlX6 (by decide) wd_71 rfl dX6_edit_57 ?_
                refine lv_bipush (v := nI 97) hx hb dX6_edit_60 (by decide) ?_
                refine lv_aload_n hx hb dX6_edit_62 rfl (lv_at hl 0 rfl) ?_
                refine z_get cx hw 0 2 rfl rfl inlX6 (by decide) wd_115 rfl dX6_edit_63 ?_
                refine z_imul hx hb (388) rfl dX6_edit_66 ?_
                refine lv_iload_n hx hb dX6_edit_67 rfl (lv_at hl 1 rfl) ?_
                refine z_iadd hx hb (388 + k2) rfl dX6_edit_68 ?_
                refine lv_aload_n hx hb dX6_edit_69 rfl (lv_at hl 0 rfl) ?_
                refine z_get cx hw 0 0 rfl rfl inlX6 (by decide) wd_70 rfl dX6_edit_70 ?_
                refine lv_iload_n hx hb dX6_edit_73 rfl (lv_at hl 1 rfl) ?_
                refine z_aldN cx hw 1 rfl (k2) rfl (by omega) (by decide) dX6_edit_74 ?_
                refine z_astN cx hw 2 rfl (388 + k2) rfl (by omega) (by decide) dX6_edit_75 (fun H locs hw => ?_)
                have hw : ZW E A s [(h0, ob 6 [.ref aN, .ref aH, .int (nI 4), .int (nI mc), .ref aO, .ref aR, .ref aL, .ref aG, .ref aT, .ref aE, .ref aB, .ref aV]), (aN, ia E 97 (nA Nw)), (aH, ia E 485 (nA (updN (cpyN Nw (shk Hs 388) 0 (97 * 4) k2) (388 + k2) (Nw k2))))] H locs := hw
                refine lv_iinc (v := nI (k2 + 1)) (lv' := [(1, .int (nI (k2 + 1))), (0, .ref h0)]) hx hb dX6_edit_76 hl (k := 1) rfl (nI_1 _) (by decide) rfl (fun ls hl => ?_)
                refine lv_goto (tgt := 50) hx hb dX6_edit_79 (by decide) ?_
                have e_b50_0 : (updN (cpyN Nw (shk Hs 388) 0 (97 * 4) k2) (388 + k2) (Nw k2)) = (cpyN Nw (shk Hs 388) 0 (97 * 4) (k2 + 1)) := by rw [← cpyN_s, Nat.zero_add]
                exact ih_50 (k2 + 1) (by omega) (by omega) _ _ ls ((hw).cast (zc rfl (zc rfl (zc (congrArg (fun z => ((aH, ia E 485 (nA z)) : Nat × va_E)) e_b50_0) rfl)))) (lv_add (lv_add (lv_nil hl) (lv_at hl 0 rfl)) (lv_at hl 1 rfl))
          have e_i50_0 : (shk Hs 388) = (cpyN Nw (shk Hs 388) 0 (97 * 4) 0) := by rw [← cpyN_0]
          exact loop_50 _ 0 (by omega) (Nat.lt_succ_self _) _ _ ls ((hw).cast (zc rfl (zc rfl (zc (congrArg (fun z => ((aH, ia E 485 (nA z)) : Nat × va_E)) e_i50_0) rfl)))) (lv_add (lv_add (lv_nil hl) (lv_at hl 0 rfl)) (lv_at hl 1 rfl))
        · refine lv_aload_n hx hb dX6_edit_17 rfl (lv_at hl 0 rfl) ?_
          refine z_get cx hw 0 1 rfl rfl inlX6 (by decide) wd_71 rfl dX6_edit_18 ?_
          refine lv_iload_n hx hb dX6_edit_21 rfl (lv_at hl 1 rfl) ?_
          refine lv_aload_n hx hb dX6_edit_22 rfl (lv_at hl 0 rfl) ?_
          refine z_get cx hw 0 1 rfl rfl inlX6 (by decide) wd_71 rfl dX6_edit_23 ?_
          refine lv_iload_n hx hb dX6_edit_26 rfl (lv_at hl 1 rfl) ?_
          refine lv_bipush (v := nI 97) hx hb dX6_edit_27 (by decide) ?_
          refine z_iadd hx hb (k + 97) rfl dX6_edit_29 ?_
          refine z_aldN cx hw 2 rfl (k + 97) rfl (by omega) (by decide) dX6_edit_30 ?_
          rw [shk_at]
          refine z_astN cx hw 2 rfl (k) rfl (by omega) (by decide) dX6_edit_31 (fun H locs hw => ?_)
          have hw : ZW E A s [(h0, ob 6 [.ref aN, .ref aH, .int (nI ed), .int (nI mc), .ref aO, .ref aR, .ref aL, .ref aG, .ref aT, .ref aE, .ref aB, .ref aV]), (aN, ia E 97 (nA Nw)), (aH, ia E 485 (nA (updN (shk Hs k) k (Hs (k + 97)))))] H locs := hw
          refine lv_iinc (v := nI (k + 1)) (lv' := [(1, .int (nI (k + 1))), (0, .ref h0)]) hx hb dX6_edit_32 hl (k := 1) rfl (nI_1 _) (by decide) rfl (fun ls hl => ?_)
          refine lv_goto (tgt := 10) hx hb dX6_edit_35 (by decide) ?_
          have e_b10_0 : (updN (shk Hs k) k (Hs (k + 97))) = (shk Hs (k + 1)) := by rw [shk_s]
          exact ih_10 (k + 1) (by omega) (by omega) _ _ ls ((hw).cast (zc rfl (zc rfl (zc (congrArg (fun z => ((aH, ia E 485 (nA z)) : Nat × va_E)) e_b10_0) rfl)))) (lv_add (lv_add (lv_nil hl) (lv_at hl 0 rfl)) (lv_at hl 1 rfl))
    have e_i10_0 : Hs = (shk Hs 0) := by rw [← shk_0]
    exact loop_10 _ 0 (by omega) (Nat.lt_succ_self _) _ _ ls ((hw).cast (zc rfl (zc rfl (zc (congrArg (fun z => ((aH, ia E 485 (nA z)) : Nat × va_E)) e_i10_0) rfl)))) (lv_add (lv_add (lv_nil hl) (lv_at hl 0 rfl)) (lv_at hl 1 rfl))

def rmX6_undo : Room := { frames := 0, cells := 0, slots := 0, locals := 0 }
set_option maxHeartbeats 4000000 in
set_option maxRecDepth 100000 in
theorem c_X6_undo (l : Launch) (E : ZE) (h0 aN aH aO aR aL aG aT aE aB aV : Nat) (ed mc : Nat) (Nw Hs : Nat → Nat) (he : ed ≤ 5) : ZMi l yX6_undo cX6_undo 2 (some .int) rmX6_undo E [.ref h0] [(h0, ob 6 [.ref aN, .ref aH, .int (nI ed), .int (nI mc), .ref aO, .ref aR, .ref aL, .ref aG, .ref aT, .ref aE, .ref aB, .ref aV]), (aN, ia E 97 (nA Nw)), (aH, ia E 485 (nA Hs))] (S := Unit) (fun r _ => r = undR ed) (fun _ => [(h0, ob 6 [.ref aN, .ref aH, .int (nI ((undM (Nw, Hs, ed) ).2.2)), .int (nI mc), .ref aO, .ref aR, .ref aL, .ref aG, .ref aT, .ref aE, .ref aB, .ref aV]), (aN, ia E 97 (nA ((undM (Nw, Hs, ed) ).1))), (aH, ia E 485 (nA ((undM (Nw, Hs, ed) ).2.1)))]) := by
  refine z_mi (by decide) (Nat.le_of_ble_eq_true rfl) ?_
  intro p e s m args below meth c A Q ls cx hin hw hl ret
  obtain ⟨hx, hb, hml, hown, hts, hK, hN, hA, hlk⟩ := id cx
  have hl : lv_has ls 2 [(0, .ref h0)] := hl
  refine lv_aload_n hx hb dX6_undo_0 rfl (lv_at hl 0 rfl) ?_
  refine z_get cx hw 0 2 rfl rfl inlX6 (by decide) wd_115 rfl dX6_undo_1 ?_
  refine z_if_ne hx hb (by omega) 10 dX6_undo_4 (by decide) (fun c_4 => ?_) (fun c_4 => ?_)
  · refine lv_aload_n hx hb dX6_undo_10 rfl (lv_at hl 0 rfl) ?_
    refine lv_dup hx hb dX6_undo_11 rfl ?_
    refine z_get cx hw 0 2 rfl rfl inlX6 (by decide) wd_115 rfl dX6_undo_12 ?_
    refine lv_iconst (v := nI 1) hx hb dX6_undo_15 (by decide) ?_
    refine z_isub hx hb (ed - 1) (by omega) rfl dX6_undo_16 ?_
    refine z_put cx hw 0 2 rfl rfl inlX6 tyX6_ok nmX6 (by decide) wd_115 rfl rfl rfl (Nat.le_of_ble_eq_true rfl) dX6_undo_17 (fun H locs hw => ?_)
    have hw : ZW E A s [(h0, ob 6 [.ref aN, .ref aH, .int (nI (ed - 1)), .int (nI mc), .ref aO, .ref aR, .ref aL, .ref aG, .ref aT, .ref aE, .ref aB, .ref aV]), (aN, ia E 97 (nA Nw)), (aH, ia E 485 (nA Hs))] H locs := hw
    refine lv_iconst (v := nI 0) hx hb dX6_undo_20 (by decide) ?_
    refine lv_istore_n (lv' := [(1, .int (nI 0)), (0, .ref h0)]) hx hb dX6_undo_21 rfl hl (by decide) rfl (fun ls hl => ?_)
    have loop_22 : ∀ (fuel : Nat) (k : Nat) (hk : k ≤ 97) (hm : 97 - k < fuel) (H : Heap) (locs : List Loc) (ls : Array Slot), ZW E A s [(h0, ob 6 [.ref aN, .ref aH, .int (nI (ed - 1)), .int (nI mc), .ref aO, .ref aR, .ref aL, .ref aG, .ref aT, .ref aE, .ref aB, .ref aV]), (aN, ia E 97 (nA (cpyN Hs Nw (97 * (ed - 1)) 0 k))), (aH, ia E 485 (nA Hs))] H locs → lv_has ls 2 [(0, .ref h0), (1, .int (nI k))] → W p l e rmX6_undo s m args below meth c H locs 0 0 Q (F0 m 22 ls []) := by
      intro fuel
      induction fuel with
      | zero => intro k hk hm; exact absurd hm (Nat.not_lt_zero _)
      | succ fuel ih_22 =>
        intro k hk hm H locs ls hw hl
        refine lv_iload_n hx hb dX6_undo_22 rfl (lv_at hl 1 rfl) ?_
        refine lv_bipush (v := nI 97) hx hb dX6_undo_23 (by decide) ?_
        refine z_icmp_ge hx hb (by omega) (by decide) 54 dX6_undo_25 (by decide) (fun c_25 => ?_) (fun c_25 => ?_)
        · refine lv_aload_n hx hb dX6_undo_54 rfl (lv_at hl 0 rfl) ?_
          refine z_get cx hw 0 2 rfl rfl inlX6 (by decide) wd_115 rfl dX6_undo_55 ?_
          have hw := hw.ext (g := nA (fun j => Hs (97 * (ed - 1) + j))) 1 rfl (fun j hj => by simp only [nA, cpyN]; rw [if_pos (by omega)]; rfl)
          have hw : ZW E A s [(h0, ob 6 [.ref aN, .ref aH, .int (nI (ed - 1)), .int (nI mc), .ref aO, .ref aR, .ref aL, .ref aG, .ref aT, .ref aE, .ref aB, .ref aV]), (aN, ia E 97 (nA (fun j => Hs (97 * (ed - 1) + j)))), (aH, ia E 485 (nA Hs))] H locs := hw
          have hs_ : undM (Nw, Hs, ed) = (fun j => Hs (97 * (ed - 1) + j), Hs, ed - 1) := if_neg (by dsimp only; omega)
          have e_r58_0 : (ed - 1) = ((undM (Nw, Hs, ed) ).2.2) := by rw [hs_]
          have e_r58_1 : (fun j => Hs (97 * (ed - 1) + j)) = ((undM (Nw, Hs, ed) ).1) := by rw [hs_]
          have e_r58_2 : Hs = ((undM (Nw, Hs, ed) ).2.1) := by rw [hs_]
          exact ret (nI (ed - 1)) () 58 ls H locs dX6_undo_58 (by rw [undR, if_neg (by omega)]) ((hw).cast (zc (congrArg (fun z => ((h0, ob 6 [.ref aN, .ref aH, .int (nI z), .int (nI mc), .ref aO, .ref aR, .ref aL, .ref aG, .ref aT, .ref aE, .ref aB, .ref aV]) : Nat × va_E)) e_r58_0) (zc (congrArg (fun z => ((aN, ia E 97 (nA z)) : Nat × va_E)) e_r58_1) (zc (congrArg (fun z => ((aH, ia E 485 (nA z)) : Nat × va_E)) e_r58_2) rfl))))
        · refine lv_aload_n hx hb dX6_undo_28 rfl (lv_at hl 0 rfl) ?_
          refine z_get cx hw 0 0 rfl rfl inlX6 (by decide) wd_70 rfl dX6_undo_29 ?_
          refine lv_iload_n hx hb dX6_undo_32 rfl (lv_at hl 1 rfl) ?_
          refine lv_aload_n hx hb dX6_undo_33 rfl (lv_at hl 0 rfl) ?_
          refine z_get cx hw 0 1 rfl rfl inlX6 (by decide) wd_71 rfl dX6_undo_34 ?_
          refine lv_bipush (v := nI 97) hx hb dX6_undo_37 (by decide) ?_
          refine lv_aload_n hx hb dX6_undo_39 rfl (lv_at hl 0 rfl) ?_
          refine z_get cx hw 0 2 rfl rfl inlX6 (by decide) wd_115 rfl dX6_undo_40 ?_
          refine z_imul hx hb (97 * (ed - 1)) rfl dX6_undo_43 ?_
          refine lv_iload_n hx hb dX6_undo_44 rfl (lv_at hl 1 rfl) ?_
          refine z_iadd hx hb ((97 * (ed - 1)) + k) rfl dX6_undo_45 ?_
          refine z_aldN cx hw 2 rfl ((97 * (ed - 1)) + k) rfl (by omega) (by decide) dX6_undo_46 ?_
          refine z_astN cx hw 1 rfl (k) rfl (by omega) (by decide) dX6_undo_47 (fun H locs hw => ?_)
          have hw : ZW E A s [(h0, ob 6 [.ref aN, .ref aH, .int (nI (ed - 1)), .int (nI mc), .ref aO, .ref aR, .ref aL, .ref aG, .ref aT, .ref aE, .ref aB, .ref aV]), (aN, ia E 97 (nA (updN (cpyN Hs Nw (97 * (ed - 1)) 0 k) k (Hs ((97 * (ed - 1)) + k))))), (aH, ia E 485 (nA Hs))] H locs := hw
          refine lv_iinc (v := nI (k + 1)) (lv' := [(1, .int (nI (k + 1))), (0, .ref h0)]) hx hb dX6_undo_48 hl (k := 1) rfl (nI_1 _) (by decide) rfl (fun ls hl => ?_)
          refine lv_goto (tgt := 22) hx hb dX6_undo_51 (by decide) ?_
          have e_b22_0 : (updN (cpyN Hs Nw (97 * (ed - 1)) 0 k) k (Hs ((97 * (ed - 1)) + k))) = (cpyN Hs Nw (97 * (ed - 1)) 0 (k + 1)) := by rw [← cpyN_s, Nat.zero_add]
          exact ih_22 (k + 1) (by omega) (by omega) _ _ ls ((hw).cast (zc rfl (zc (congrArg (fun z => ((aN, ia E 97 (nA z)) : Nat × va_E)) e_b22_0) rfl))) (lv_add (lv_add (lv_nil hl) (lv_at hl 0 rfl)) (lv_at hl 1 rfl))
    have e_i22_0 : Nw = (cpyN Hs Nw (97 * (ed - 1)) 0 0) := by rw [← cpyN_0]
    exact loop_22 _ 0 (by omega) (Nat.lt_succ_self _) _ _ ls ((hw).cast (zc rfl (zc (congrArg (fun z => ((aN, ia E 97 (nA z)) : Nat × va_E)) e_i22_0) rfl))) (lv_add (lv_add (lv_nil hl) (lv_at hl 0 rfl)) (lv_at hl 1 rfl))
  · refine lv_bipush (v := (-3)) hx hb dX6_undo_7 (by decide) ?_
    have hs_ : undM (Nw, Hs, ed) = (Nw, Hs, ed) := if_pos c_4
    have e_r9_0 : ed = ((undM (Nw, Hs, ed) ).2.2) := by rw [hs_]
    have e_r9_1 : Nw = ((undM (Nw, Hs, ed) ).1) := by rw [hs_]
    have e_r9_2 : Hs = ((undM (Nw, Hs, ed) ).2.1) := by rw [hs_]
    exact ret ((-3)) () 9 ls s.heap [] dX6_undo_9 (by rw [undR, if_pos c_4]) ((hw).cast (zc (congrArg (fun z => ((h0, ob 6 [.ref aN, .ref aH, .int (nI z), .int (nI mc), .ref aO, .ref aR, .ref aL, .ref aG, .ref aT, .ref aE, .ref aB, .ref aV]) : Nat × va_E)) e_r9_0) (zc (congrArg (fun z => ((aN, ia E 97 (nA z)) : Nat × va_E)) e_r9_1) (zc (congrArg (fun z => ((aH, ia E 485 (nA z)) : Nat × va_E)) e_r9_2) rfl))))

def rmX6_addSpecimen : Room := { frames := 1, cells := 0, slots := 0, locals := 22 }
set_option maxHeartbeats 4000000 in
set_option maxRecDepth 100000 in
theorem c_X6_addSpecimen (l : Launch) (E : ZE) (h0 aN aH aO aR aL aG aT aE aB aV : Nat) (ed mc : Nat) (Nw Hs : Nat → Nat) (x1 x2 x3 x4 : Int32) (hn : Nw 96 ≤ 24) (he : ed ≤ 5) : ZMi l yX6_addSpecimen cX6_addSpecimen 6 (some .int) rmX6_addSpecimen E [.ref h0, .int x1, .int x2, .int x3, .int x4] [(h0, ob 6 [.ref aN, .ref aH, .int (nI ed), .int (nI mc), .ref aO, .ref aR, .ref aL, .ref aG, .ref aT, .ref aE, .ref aB, .ref aV]), (aN, ia E 97 (nA Nw)), (aH, ia E 485 (nA Hs))] (S := Unit) (fun r _ => r = addR (Nw 96) x1 x2 x3 x4) (fun _ => [(h0, ob 6 [.ref aN, .ref aH, .int (nI ((addM (Nw, Hs, ed) x1 x2 x3 x4).2.2)), .int (nI mc), .ref aO, .ref aR, .ref aL, .ref aG, .ref aT, .ref aE, .ref aB, .ref aV]), (aN, ia E 97 (nA ((addM (Nw, Hs, ed) x1 x2 x3 x4).1))), (aH, ia E 485 (nA ((addM (Nw, Hs, ed) x1 x2 x3 x4).2.1)))]) := by
  refine z_mi (by decide) (Nat.le_of_ble_eq_true rfl) ?_
  intro p e s m args below meth c A Q ls cx hin hw hl ret
  obtain ⟨hx, hb, hml, hown, hts, hK, hN, hA, hlk⟩ := id cx
  have hl : lv_has ls 6 [(0, .ref h0), (1, .int x1), (2, .int x2), (3, .int x3), (4, .int x4)] := hl
  refine lv_iload_n hx hb dX6_addSpecimen_0 rfl (lv_at hl 1 rfl) ?_
  refine lv_iconst (v := nI 0) hx hb dX6_addSpecimen_1 (by decide) ?_
  refine lv_bipush (v := nI 9) hx hb dX6_addSpecimen_2 (by decide) ?_
  refine z_ri0 (wr := [(h0, ob 6 [.ref aN, .ref aH, .int (nI ed), .int (nI mc), .ref aO, .ref aR, .ref aL, .ref aG, .ref aT, .ref aE, .ref aB, .ref aV]), (aN, ia E 97 (nA Nw)), (aH, ia E 485 (nA Hs))]) cx hw [] [0, 1, 2] rfl rfl (by decide) (by decide) rfl rfl (z_runS (As := [.int x1, .int (nI 0), .int (nI 9)]) (rest := []) cx hw [] rfl rfl (c_X6_in l E x1 (nI 0) (nI 9)  s.heap.size) mf_X6_in wd_108 ⟨Nat.le_of_ble_eq_true rfl, Nat.le_of_ble_eq_true rfl⟩ hl (Nat.le_of_ble_eq_true rfl) dX6_addSpecimen_4 ⟨Nat.le_of_ble_eq_true rfl, Nat.le_of_ble_eq_true rfl⟩) (fun r _ H locs hp hw => ?_)
  have hr_4 := hp
  have hr_4 : r = bI (decide ((nI 0) ≤ x1 ∧ x1 ≤ (nI 9))) := hr_4
  subst hr_4
  have hw : ZW E A s [(h0, ob 6 [.ref aN, .ref aH, .int (nI ed), .int (nI mc), .ref aO, .ref aR, .ref aL, .ref aG, .ref aT, .ref aE, .ref aB, .ref aV]), (aN, ia E 97 (nA Nw)), (aH, ia E 485 (nA Hs))] H locs := hw
  rw [show decide (nI 0 ≤ x1 ∧ x1 ≤ nI 9) = inR x1 10 from inR_le (by decide)]
  refine z_ifb_eq hx hb 39 dX6_addSpecimen_7 (by decide) (fun c_7 => ?_) (fun c_7 => ?_)
  · refine lv_iconst (v := (-1)) hx hb dX6_addSpecimen_39 (by decide) ?_
    have ho_ : okA (x1) (x2) (x3) (x4) = false := by simp [okA, c_7]
    have hs_ : addM (Nw, Hs, ed) (x1) (x2) (x3) (x4) = (Nw, Hs, ed) := if_neg (fun z => by rw [ho_] at z; exact absurd z.1 (by decide))
    have e_r40_0 : ed = ((addM (Nw, Hs, ed) x1 x2 x3 x4).2.2) := by rw [hs_]
    have e_r40_1 : Nw = ((addM (Nw, Hs, ed) x1 x2 x3 x4).1) := by rw [hs_]
    have e_r40_2 : Hs = ((addM (Nw, Hs, ed) x1 x2 x3 x4).2.1) := by rw [hs_]
    exact ret ((-1)) () 40 ls H locs dX6_addSpecimen_40 (by simp only [addR, ho_]; rfl) ((hw).cast (zc (congrArg (fun z => ((h0, ob 6 [.ref aN, .ref aH, .int (nI z), .int (nI mc), .ref aO, .ref aR, .ref aL, .ref aG, .ref aT, .ref aE, .ref aB, .ref aV]) : Nat × va_E)) e_r40_0) (zc (congrArg (fun z => ((aN, ia E 97 (nA z)) : Nat × va_E)) e_r40_1) (zc (congrArg (fun z => ((aH, ia E 485 (nA z)) : Nat × va_E)) e_r40_2) rfl))))
  · obtain ⟨d1, hd1, rfl⟩ := inR_get c_7 (by omega)
    refine lv_iload_n hx hb dX6_addSpecimen_10 rfl (lv_at hl 2 rfl) ?_
    refine lv_iconst (v := nI 0) hx hb dX6_addSpecimen_11 (by decide) ?_
    refine lv_bipush (v := nI 9) hx hb dX6_addSpecimen_12 (by decide) ?_
    refine z_ri0 (wr := [(h0, ob 6 [.ref aN, .ref aH, .int (nI ed), .int (nI mc), .ref aO, .ref aR, .ref aL, .ref aG, .ref aT, .ref aE, .ref aB, .ref aV]), (aN, ia E 97 (nA Nw)), (aH, ia E 485 (nA Hs))]) cx hw [] [0, 1, 2] rfl rfl (by decide) (by decide) rfl rfl (z_runS (As := [.int x2, .int (nI 0), .int (nI 9)]) (rest := []) cx hw [] rfl rfl (c_X6_in l E x2 (nI 0) (nI 9)  H.size) mf_X6_in wd_108 ⟨Nat.le_of_ble_eq_true rfl, Nat.le_of_ble_eq_true rfl⟩ hl (Nat.le_of_ble_eq_true rfl) dX6_addSpecimen_14 ⟨Nat.le_of_ble_eq_true rfl, Nat.le_of_ble_eq_true rfl⟩) (fun r _ H locs hp hw => ?_)
    have hr_14 := hp
    have hr_14 : r = bI (decide ((nI 0) ≤ x2 ∧ x2 ≤ (nI 9))) := hr_14
    subst hr_14
    have hw : ZW E A s [(h0, ob 6 [.ref aN, .ref aH, .int (nI ed), .int (nI mc), .ref aO, .ref aR, .ref aL, .ref aG, .ref aT, .ref aE, .ref aB, .ref aV]), (aN, ia E 97 (nA Nw)), (aH, ia E 485 (nA Hs))] H locs := hw
    rw [show decide (nI 0 ≤ x2 ∧ x2 ≤ nI 9) = inR x2 10 from inR_le (by decide)]
    refine z_ifb_eq hx hb 39 dX6_addSpecimen_17 (by decide) (fun c_17 => ?_) (fun c_17 => ?_)
    · refine lv_iconst (v := (-1)) hx hb dX6_addSpecimen_39 (by decide) ?_
      have ho_ : okA (nI d1) (x2) (x3) (x4) = false := by simp [okA, c_17]
      have hs_ : addM (Nw, Hs, ed) (nI d1) (x2) (x3) (x4) = (Nw, Hs, ed) := if_neg (fun z => by rw [ho_] at z; exact absurd z.1 (by decide))
      have e_r40_0 : ed = ((addM (Nw, Hs, ed) (nI d1) x2 x3 x4).2.2) := by rw [hs_]
      have e_r40_1 : Nw = ((addM (Nw, Hs, ed) (nI d1) x2 x3 x4).1) := by rw [hs_]
      have e_r40_2 : Hs = ((addM (Nw, Hs, ed) (nI d1) x2 x3 x4).2.1) := by rw [hs_]
      exact ret ((-1)) () 40 ls H locs dX6_addSpecimen_40 (by simp only [addR, ho_]; rfl) ((hw).cast (zc (congrArg (fun z => ((h0, ob 6 [.ref aN, .ref aH, .int (nI z), .int (nI mc), .ref aO, .ref aR, .ref aL, .ref aG, .ref aT, .ref aE, .ref aB, .ref aV]) : Nat × va_E)) e_r40_0) (zc (congrArg (fun z => ((aN, ia E 97 (nA z)) : Nat × va_E)) e_r40_1) (zc (congrArg (fun z => ((aH, ia E 485 (nA z)) : Nat × va_E)) e_r40_2) rfl))))
    · obtain ⟨d2, hd2, rfl⟩ := inR_get c_17 (by omega)
      refine lv_iload_n hx hb dX6_addSpecimen_20 rfl (lv_at hl 3 rfl) ?_
      refine lv_iconst (v := nI 0) hx hb dX6_addSpecimen_21 (by decide) ?_
      refine lv_iconst (v := nI 5) hx hb dX6_addSpecimen_22 (by decide) ?_
      refine z_ri0 (wr := [(h0, ob 6 [.ref aN, .ref aH, .int (nI ed), .int (nI mc), .ref aO, .ref aR, .ref aL, .ref aG, .ref aT, .ref aE, .ref aB, .ref aV]), (aN, ia E 97 (nA Nw)), (aH, ia E 485 (nA Hs))]) cx hw [] [0, 1, 2] rfl rfl (by decide) (by decide) rfl rfl (z_runS (As := [.int x3, .int (nI 0), .int (nI 5)]) (rest := []) cx hw [] rfl rfl (c_X6_in l E x3 (nI 0) (nI 5)  H.size) mf_X6_in wd_108 ⟨Nat.le_of_ble_eq_true rfl, Nat.le_of_ble_eq_true rfl⟩ hl (Nat.le_of_ble_eq_true rfl) dX6_addSpecimen_23 ⟨Nat.le_of_ble_eq_true rfl, Nat.le_of_ble_eq_true rfl⟩) (fun r _ H locs hp hw => ?_)
      have hr_23 := hp
      have hr_23 : r = bI (decide ((nI 0) ≤ x3 ∧ x3 ≤ (nI 5))) := hr_23
      subst hr_23
      have hw : ZW E A s [(h0, ob 6 [.ref aN, .ref aH, .int (nI ed), .int (nI mc), .ref aO, .ref aR, .ref aL, .ref aG, .ref aT, .ref aE, .ref aB, .ref aV]), (aN, ia E 97 (nA Nw)), (aH, ia E 485 (nA Hs))] H locs := hw
      rw [show decide (nI 0 ≤ x3 ∧ x3 ≤ nI 5) = inR x3 6 from inR_le (by decide)]
      refine z_ifb_eq hx hb 39 dX6_addSpecimen_26 (by decide) (fun c_26 => ?_) (fun c_26 => ?_)
      · refine lv_iconst (v := (-1)) hx hb dX6_addSpecimen_39 (by decide) ?_
        have ho_ : okA (nI d1) (nI d2) (x3) (x4) = false := by simp [okA, c_26]
        have hs_ : addM (Nw, Hs, ed) (nI d1) (nI d2) (x3) (x4) = (Nw, Hs, ed) := if_neg (fun z => by rw [ho_] at z; exact absurd z.1 (by decide))
        have e_r40_0 : ed = ((addM (Nw, Hs, ed) (nI d1) (nI d2) x3 x4).2.2) := by rw [hs_]
        have e_r40_1 : Nw = ((addM (Nw, Hs, ed) (nI d1) (nI d2) x3 x4).1) := by rw [hs_]
        have e_r40_2 : Hs = ((addM (Nw, Hs, ed) (nI d1) (nI d2) x3 x4).2.1) := by rw [hs_]
        exact ret ((-1)) () 40 ls H locs dX6_addSpecimen_40 (by simp only [addR, ho_]; rfl) ((hw).cast (zc (congrArg (fun z => ((h0, ob 6 [.ref aN, .ref aH, .int (nI z), .int (nI mc), .ref aO, .ref aR, .ref aL, .ref aG, .ref aT, .ref aE, .ref aB, .ref aV]) : Nat × va_E)) e_r40_0) (zc (congrArg (fun z => ((aN, ia E 97 (nA z)) : Nat × va_E)) e_r40_1) (zc (congrArg (fun z => ((aH, ia E 485 (nA z)) : Nat × va_E)) e_r40_2) rfl))))
      · obtain ⟨w1, hw1, rfl⟩ := inR_get c_26 (by omega)
        refine lv_iload hx hb dX6_addSpecimen_29 (lv_at hl 4 rfl) ?_
        refine lv_iconst (v := nI 0) hx hb dX6_addSpecimen_31 (by decide) ?_
        refine lv_iconst (v := nI 5) hx hb dX6_addSpecimen_32 (by decide) ?_
        refine z_ri0 (wr := [(h0, ob 6 [.ref aN, .ref aH, .int (nI ed), .int (nI mc), .ref aO, .ref aR, .ref aL, .ref aG, .ref aT, .ref aE, .ref aB, .ref aV]), (aN, ia E 97 (nA Nw)), (aH, ia E 485 (nA Hs))]) cx hw [] [0, 1, 2] rfl rfl (by decide) (by decide) rfl rfl (z_runS (As := [.int x4, .int (nI 0), .int (nI 5)]) (rest := []) cx hw [] rfl rfl (c_X6_in l E x4 (nI 0) (nI 5)  H.size) mf_X6_in wd_108 ⟨Nat.le_of_ble_eq_true rfl, Nat.le_of_ble_eq_true rfl⟩ hl (Nat.le_of_ble_eq_true rfl) dX6_addSpecimen_33 ⟨Nat.le_of_ble_eq_true rfl, Nat.le_of_ble_eq_true rfl⟩) (fun r _ H locs hp hw => ?_)
        have hr_33 := hp
        have hr_33 : r = bI (decide ((nI 0) ≤ x4 ∧ x4 ≤ (nI 5))) := hr_33
        subst hr_33
        have hw : ZW E A s [(h0, ob 6 [.ref aN, .ref aH, .int (nI ed), .int (nI mc), .ref aO, .ref aR, .ref aL, .ref aG, .ref aT, .ref aE, .ref aB, .ref aV]), (aN, ia E 97 (nA Nw)), (aH, ia E 485 (nA Hs))] H locs := hw
        rw [show decide (nI 0 ≤ x4 ∧ x4 ≤ nI 5) = inR x4 6 from inR_le (by decide)]
        refine z_ifb_ne hx hb 41 dX6_addSpecimen_36 (by decide) (fun c_36 => ?_) (fun c_36 => ?_)
        · obtain ⟨w2, hw2, rfl⟩ := inR_get c_36 (by omega)
          refine lv_aload_n hx hb dX6_addSpecimen_41 rfl (lv_at hl 0 rfl) ?_
          refine z_get cx hw 0 0 rfl rfl inlX6 (by decide) wd_70 rfl dX6_addSpecimen_42 ?_
          refine lv_bipush (v := nI 96) hx hb dX6_addSpecimen_45 (by decide) ?_
          refine z_aldN cx hw 1 rfl (96) rfl (by omega) (by decide) dX6_addSpecimen_47 ?_
          refine lv_bipush (v := nI 24) hx hb dX6_addSpecimen_48 (by decide) ?_
          refine z_icmp_ne hx hb (by omega) (by decide) 56 dX6_addSpecimen_50 (by decide) (fun c_50 => ?_) (fun c_50 => ?_)
          · refine lv_aload_n hx hb dX6_addSpecimen_56 rfl (lv_at hl 0 rfl) ?_
            refine z_rv0 (wr := []) cx hw [0, 1, 2] [] rfl rfl (by decide) (by decide) rfl rfl (z_runV (As := []) (rest := []) cx hw rfl rfl [0, 1, 2] rfl rfl (c_X6_edit l E h0 aN aH aO aR aL aG aT aE aB aV ed mc Nw Hs (by omega) H.size) mf_X6_edit wd_111 ⟨Nat.le_of_ble_eq_true rfl, Nat.le_of_ble_eq_true rfl⟩ hl (Nat.le_of_ble_eq_true rfl) dX6_addSpecimen_57 ⟨Nat.le_of_ble_eq_true rfl, Nat.le_of_ble_eq_true rfl⟩) (fun _ H locs hp hw => ?_)
            have hw : ZW E A s [(h0, ob 6 [.ref aN, .ref aH, .int (nI (incN ed)), .int (nI mc), .ref aO, .ref aR, .ref aL, .ref aG, .ref aT, .ref aE, .ref aB, .ref aV]), (aN, ia E 97 (nA Nw)), (aH, ia E 485 (nA (edH Nw Hs ed)))] H locs := hw
            refine lv_iconst (v := nI 4) hx hb dX6_addSpecimen_60 (by decide) ?_
            refine lv_aload_n hx hb dX6_addSpecimen_61 rfl (lv_at hl 0 rfl) ?_
            refine z_get cx hw 0 0 rfl rfl inlX6 (by decide) wd_70 rfl dX6_addSpecimen_62 ?_
            refine lv_bipush (v := nI 96) hx hb dX6_addSpecimen_65 (by decide) ?_
            refine z_aldN cx hw 1 rfl (96) rfl (by omega) (by decide) dX6_addSpecimen_67 ?_
            refine z_imul hx hb (4 * (Nw 96)) rfl dX6_addSpecimen_68 ?_
            refine lv_istore (lv' := [(5, .int (nI (4 * (Nw 96)))), (0, .ref h0), (1, .int (nI d1)), (2, .int (nI d2)), (3, .int (nI w1)), (4, .int (nI w2))]) hx hb dX6_addSpecimen_69 hl (by decide) rfl (fun ls hl => ?_)
            refine lv_aload_n hx hb dX6_addSpecimen_71 rfl (lv_at hl 1 rfl) ?_
            refine z_get cx hw 0 0 rfl rfl inlX6 (by decide) wd_70 rfl dX6_addSpecimen_72 ?_
            refine lv_iload hx hb dX6_addSpecimen_75 (lv_at hl 0 rfl) ?_
            refine lv_iload_n hx hb dX6_addSpecimen_77 rfl (lv_at hl 2 rfl) ?_
            refine z_astN cx hw 1 rfl (4 * Nw 96 + 0) (congrArg nI (by omega)) (by omega) (by decide) dX6_addSpecimen_78 (fun H locs hw => ?_)
            have hw : ZW E A s [(h0, ob 6 [.ref aN, .ref aH, .int (nI (incN ed)), .int (nI mc), .ref aO, .ref aR, .ref aL, .ref aG, .ref aT, .ref aE, .ref aB, .ref aV]), (aN, ia E 97 (nA (updN Nw (4 * Nw 96 + 0) d1))), (aH, ia E 485 (nA (edH Nw Hs ed)))] H locs := hw
            refine lv_aload_n hx hb dX6_addSpecimen_79 rfl (lv_at hl 1 rfl) ?_
            refine z_get cx hw 0 0 rfl rfl inlX6 (by decide) wd_70 rfl dX6_addSpecimen_80 ?_
            refine lv_iload hx hb dX6_addSpecimen_83 (lv_at hl 0 rfl) ?_
            refine lv_iconst (v := nI 1) hx hb dX6_addSpecimen_85 (by decide) ?_
            refine z_iadd hx hb ((4 * (Nw 96)) + 1) rfl dX6_addSpecimen_86 ?_
            refine lv_iload_n hx hb dX6_addSpecimen_87 rfl (lv_at hl 3 rfl) ?_
            refine z_astN cx hw 1 rfl (4 * Nw 96 + 1) (congrArg nI (by omega)) (by omega) (by decide) dX6_addSpecimen_88 (fun H locs hw => ?_)
            have hw : ZW E A s [(h0, ob 6 [.ref aN, .ref aH, .int (nI (incN ed)), .int (nI mc), .ref aO, .ref aR, .ref aL, .ref aG, .ref aT, .ref aE, .ref aB, .ref aV]), (aN, ia E 97 (nA (updN (updN Nw (4 * Nw 96 + 0) d1) (4 * Nw 96 + 1) d2))), (aH, ia E 485 (nA (edH Nw Hs ed)))] H locs := hw
            refine lv_aload_n hx hb dX6_addSpecimen_89 rfl (lv_at hl 1 rfl) ?_
            refine z_get cx hw 0 0 rfl rfl inlX6 (by decide) wd_70 rfl dX6_addSpecimen_90 ?_
            refine lv_iload hx hb dX6_addSpecimen_93 (lv_at hl 0 rfl) ?_
            refine lv_iconst (v := nI 2) hx hb dX6_addSpecimen_95 (by decide) ?_
            refine z_iadd hx hb ((4 * (Nw 96)) + 2) rfl dX6_addSpecimen_96 ?_
            refine lv_iload_n hx hb dX6_addSpecimen_97 rfl (lv_at hl 4 rfl) ?_
            refine z_astN cx hw 1 rfl (4 * Nw 96 + 2 + 0) (congrArg nI (by omega)) (by omega) (by decide) dX6_addSpecimen_98 (fun H locs hw => ?_)
            have hw : ZW E A s [(h0, ob 6 [.ref aN, .ref aH, .int (nI (incN ed)), .int (nI mc), .ref aO, .ref aR, .ref aL, .ref aG, .ref aT, .ref aE, .ref aB, .ref aV]), (aN, ia E 97 (nA (updN (updN (updN Nw (4 * Nw 96 + 0) d1) (4 * Nw 96 + 1) d2) (4 * Nw 96 + 2 + 0) w1))), (aH, ia E 485 (nA (edH Nw Hs ed)))] H locs := hw
            refine lv_aload_n hx hb dX6_addSpecimen_99 rfl (lv_at hl 1 rfl) ?_
            refine z_get cx hw 0 0 rfl rfl inlX6 (by decide) wd_70 rfl dX6_addSpecimen_100 ?_
            refine lv_iload hx hb dX6_addSpecimen_103 (lv_at hl 0 rfl) ?_
            refine lv_iconst (v := nI 3) hx hb dX6_addSpecimen_105 (by decide) ?_
            refine z_iadd hx hb ((4 * (Nw 96)) + 3) rfl dX6_addSpecimen_106 ?_
            refine lv_iload hx hb dX6_addSpecimen_107 (lv_at hl 5 rfl) ?_
            refine z_astN cx hw 1 rfl (4 * Nw 96 + 2 + 1) (congrArg nI (by omega)) (by omega) (by decide) dX6_addSpecimen_109 (fun H locs hw => ?_)
            have hw : ZW E A s [(h0, ob 6 [.ref aN, .ref aH, .int (nI (incN ed)), .int (nI mc), .ref aO, .ref aR, .ref aL, .ref aG, .ref aT, .ref aE, .ref aB, .ref aV]), (aN, ia E 97 (nA (updN (updN (updN (updN Nw (4 * Nw 96 + 0) d1) (4 * Nw 96 + 1) d2) (4 * Nw 96 + 2 + 0) w1) (4 * Nw 96 + 2 + 1) w2))), (aH, ia E 485 (nA (edH Nw Hs ed)))] H locs := hw
            refine lv_aload_n hx hb dX6_addSpecimen_110 rfl (lv_at hl 1 rfl) ?_
            refine z_get cx hw 0 0 rfl rfl inlX6 (by decide) wd_70 rfl dX6_addSpecimen_111 ?_
            refine lv_bipush (v := nI 96) hx hb dX6_addSpecimen_114 (by decide) ?_
            refine lv_dup2_11 hx hb dX6_addSpecimen_116 rfl rfl ?_
            refine z_aldN cx hw 1 rfl (96) rfl (by omega) (by decide) dX6_addSpecimen_117 ?_
            rw [updN_ne _ _ (by omega), updN_ne _ _ (by omega), updN_ne _ _ (by omega), updN_ne _ _ (by omega)]
            refine lv_iconst (v := nI 1) hx hb dX6_addSpecimen_118 (by decide) ?_
            refine z_iadd hx hb ((Nw 96) + 1) rfl dX6_addSpecimen_119 ?_
            refine z_astN cx hw 1 rfl (96) rfl (by omega) (by decide) dX6_addSpecimen_120 (fun H locs hw => ?_)
            have hw : ZW E A s [(h0, ob 6 [.ref aN, .ref aH, .int (nI (incN ed)), .int (nI mc), .ref aO, .ref aR, .ref aL, .ref aG, .ref aT, .ref aE, .ref aB, .ref aV]), (aN, ia E 97 (nA (updN (updN (updN (updN (updN Nw (4 * Nw 96 + 0) d1) (4 * Nw 96 + 1) d2) (4 * Nw 96 + 2 + 0) w1) (4 * Nw 96 + 2 + 1) w2) 96 ((Nw 96) + 1)))), (aH, ia E 485 (nA (edH Nw Hs ed)))] H locs := hw
            refine lv_aload_n hx hb dX6_addSpecimen_121 rfl (lv_at hl 1 rfl) ?_
            refine z_get cx hw 0 0 rfl rfl inlX6 (by decide) wd_70 rfl dX6_addSpecimen_122 ?_
            refine lv_bipush (v := nI 96) hx hb dX6_addSpecimen_125 (by decide) ?_
            refine z_aldN cx hw 1 rfl (96) rfl (by omega) (by decide) dX6_addSpecimen_127 ?_
            rw [updN_eq]
            refine lv_iconst (v := nI 1) hx hb dX6_addSpecimen_128 (by decide) ?_
            refine z_isub hx hb ((Nw 96 + 1) - 1) (by omega) rfl dX6_addSpecimen_129 ?_
            have ho_ : okA (nI d1) (nI d2) (nI w1) (nI w2) = true := by simp only [okA, c_7, c_17, c_26, c_36, Bool.and_self]
            have hlt_ : Nw 96 < 24 := by omega
            have hs_ : addM (Nw, Hs, ed) (nI d1) (nI d2) (nI w1) (nI w2) = savM (Nw, Hs, ed) (updN (pushF Nw (Nw 96) d1 d2 w1 w2) 96 (Nw 96 + 1)) := by rw [addM, if_pos ⟨ho_, hlt_⟩, cl_nI hd1 (by decide), cl_nI hd2 (by decide), cl_nI hw1 (by decide), cl_nI hw2 (by decide)]
            have e_r130_0 : (incN ed) = ((addM (Nw, Hs, ed) (nI d1) (nI d2) (nI w1) (nI w2)).2.2) := by rw [hs_]; rfl
            have e_r130_1 : (updN (updN (updN (updN (updN Nw (4 * Nw 96 + 0) d1) (4 * Nw 96 + 1) d2) (4 * Nw 96 + 2 + 0) w1) (4 * Nw 96 + 2 + 1) w2) 96 ((Nw 96) + 1)) = ((addM (Nw, Hs, ed) (nI d1) (nI d2) (nI w1) (nI w2)).1) := by rw [hs_]; rfl
            have e_r130_2 : (edH Nw Hs ed) = ((addM (Nw, Hs, ed) (nI d1) (nI d2) (nI w1) (nI w2)).2.1) := by rw [hs_]; rfl
            exact ret (nI ((Nw 96 + 1) - 1)) () 130 ls H locs dX6_addSpecimen_130 (by rw [addR, if_pos ho_, if_pos hlt_]; rfl) ((hw).cast (zc (congrArg (fun z => ((h0, ob 6 [.ref aN, .ref aH, .int (nI z), .int (nI mc), .ref aO, .ref aR, .ref aL, .ref aG, .ref aT, .ref aE, .ref aB, .ref aV]) : Nat × va_E)) e_r130_0) (zc (congrArg (fun z => ((aN, ia E 97 (nA z)) : Nat × va_E)) e_r130_1) (zc (congrArg (fun z => ((aH, ia E 485 (nA z)) : Nat × va_E)) e_r130_2) rfl))))
          · refine lv_bipush (v := (-2)) hx hb dX6_addSpecimen_53 (by decide) ?_
            have hs_ : addM (Nw, Hs, ed) (nI d1) (nI d2) (nI w1) (nI w2) = (Nw, Hs, ed) := if_neg (fun z => by have := z.2; dsimp only at this; omega)
            have e_r55_0 : ed = ((addM (Nw, Hs, ed) (nI d1) (nI d2) (nI w1) (nI w2)).2.2) := by rw [hs_]
            have e_r55_1 : Nw = ((addM (Nw, Hs, ed) (nI d1) (nI d2) (nI w1) (nI w2)).1) := by rw [hs_]
            have e_r55_2 : Hs = ((addM (Nw, Hs, ed) (nI d1) (nI d2) (nI w1) (nI w2)).2.1) := by rw [hs_]
            exact ret ((-2)) () 55 ls H locs dX6_addSpecimen_55 (by simp only [addR, okA, c_7, c_17, c_26, c_36, Bool.and_self, if_true]; rw [if_neg (by omega)]) ((hw).cast (zc (congrArg (fun z => ((h0, ob 6 [.ref aN, .ref aH, .int (nI z), .int (nI mc), .ref aO, .ref aR, .ref aL, .ref aG, .ref aT, .ref aE, .ref aB, .ref aV]) : Nat × va_E)) e_r55_0) (zc (congrArg (fun z => ((aN, ia E 97 (nA z)) : Nat × va_E)) e_r55_1) (zc (congrArg (fun z => ((aH, ia E 485 (nA z)) : Nat × va_E)) e_r55_2) rfl))))
        · refine lv_iconst (v := (-1)) hx hb dX6_addSpecimen_39 (by decide) ?_
          have ho_ : okA (nI d1) (nI d2) (nI w1) (x4) = false := by simp [okA, c_36]
          have hs_ : addM (Nw, Hs, ed) (nI d1) (nI d2) (nI w1) (x4) = (Nw, Hs, ed) := if_neg (fun z => by rw [ho_] at z; exact absurd z.1 (by decide))
          have e_r40_0 : ed = ((addM (Nw, Hs, ed) (nI d1) (nI d2) (nI w1) x4).2.2) := by rw [hs_]
          have e_r40_1 : Nw = ((addM (Nw, Hs, ed) (nI d1) (nI d2) (nI w1) x4).1) := by rw [hs_]
          have e_r40_2 : Hs = ((addM (Nw, Hs, ed) (nI d1) (nI d2) (nI w1) x4).2.1) := by rw [hs_]
          exact ret ((-1)) () 40 ls H locs dX6_addSpecimen_40 (by simp only [addR, ho_]; rfl) ((hw).cast (zc (congrArg (fun z => ((h0, ob 6 [.ref aN, .ref aH, .int (nI z), .int (nI mc), .ref aO, .ref aR, .ref aL, .ref aG, .ref aT, .ref aE, .ref aB, .ref aV]) : Nat × va_E)) e_r40_0) (zc (congrArg (fun z => ((aN, ia E 97 (nA z)) : Nat × va_E)) e_r40_1) (zc (congrArg (fun z => ((aH, ia E 485 (nA z)) : Nat × va_E)) e_r40_2) rfl))))

def rmX6_removeSpecimen : Room := { frames := 2, cells := 0, slots := 0, locals := 43 }
set_option maxHeartbeats 4000000 in
set_option maxRecDepth 100000 in
theorem c_X6_removeSpecimen (l : Launch) (E : ZE) (h0 aN aH aO aR aL aG aT aE aB aV : Nat) (ed mc : Nat) (Nw Hs : Nat → Nat) (x : Int32) (hn : Nw 96 ≤ 24) (he : ed ≤ 5) : ZMi l yX6_removeSpecimen cX6_removeSpecimen 3 (some .int) rmX6_removeSpecimen E [.ref h0, .int x] [(h0, ob 6 [.ref aN, .ref aH, .int (nI ed), .int (nI mc), .ref aO, .ref aR, .ref aL, .ref aG, .ref aT, .ref aE, .ref aB, .ref aV]), (aN, ia E 97 (nA Nw)), (aH, ia E 485 (nA Hs))] (S := Unit) (fun r _ => r = rmvR (Nw 96) x) (fun _ => [(h0, ob 6 [.ref aN, .ref aH, .int (nI ((rmvM (Nw, Hs, ed) x).2.2)), .int (nI mc), .ref aO, .ref aR, .ref aL, .ref aG, .ref aT, .ref aE, .ref aB, .ref aV]), (aN, ia E 97 (nA ((rmvM (Nw, Hs, ed) x).1))), (aH, ia E 485 (nA ((rmvM (Nw, Hs, ed) x).2.1)))]) := by
  refine z_mi (by decide) (Nat.le_of_ble_eq_true rfl) ?_
  intro p e s m args below meth c A Q ls cx hin hw hl ret
  obtain ⟨hx, hb, hml, hown, hts, hK, hN, hA, hlk⟩ := id cx
  have hl : lv_has ls 3 [(0, .ref h0), (1, .int x)] := hl
  refine lv_aload_n hx hb dX6_removeSpecimen_0 rfl (lv_at hl 0 rfl) ?_
  refine lv_iload_n hx hb dX6_removeSpecimen_1 rfl (lv_at hl 1 rfl) ?_
  refine z_ri0 (wr := [(aH, ia E 485 (nA Hs))]) cx hw [0, 1] [2] rfl rfl (by decide) (by decide) rfl rfl (z_runV (As := [.int x]) (rest := []) cx hw rfl rfl [0, 1] rfl rfl (c_X6_isSpecimen l E h0 aN aH aO aR aL aG aT aE aB aV ed mc Nw x (by omega) s.heap.size) mf_X6_isSpecimen wd_131 ⟨Nat.le_of_ble_eq_true rfl, Nat.le_of_ble_eq_true rfl⟩ hl (Nat.le_of_ble_eq_true rfl) dX6_removeSpecimen_2 ⟨Nat.le_of_ble_eq_true rfl, Nat.le_of_ble_eq_true rfl⟩) (fun r _ H locs hp hw => ?_)
  have hr_2 := hp
  have hr_2 : r = bI (inR x (Nw 96)) := hr_2
  subst hr_2
  have hw : ZW E A s [(aH, ia E 485 (nA Hs)), (h0, ob 6 [.ref aN, .ref aH, .int (nI ed), .int (nI mc), .ref aO, .ref aR, .ref aL, .ref aG, .ref aT, .ref aE, .ref aB, .ref aV]), (aN, ia E 97 (nA Nw))] H locs := hw
  refine z_ifb_ne hx hb 10 dX6_removeSpecimen_5 (by decide) (fun c_5 => ?_) (fun c_5 => ?_)
  · obtain ⟨k, hk, rfl⟩ := inR_get c_5 (by omega)
    refine lv_aload_n hx hb dX6_removeSpecimen_10 rfl (lv_at hl 0 rfl) ?_
    refine z_rv0 (wr := []) cx hw [1, 2, 0] [] rfl rfl (by decide) (by decide) rfl rfl (z_runV (As := []) (rest := []) cx hw rfl rfl [1, 2, 0] rfl rfl (c_X6_edit l E h0 aN aH aO aR aL aG aT aE aB aV ed mc Nw Hs (by omega) H.size) mf_X6_edit wd_111 ⟨Nat.le_of_ble_eq_true rfl, Nat.le_of_ble_eq_true rfl⟩ hl (Nat.le_of_ble_eq_true rfl) dX6_removeSpecimen_11 ⟨Nat.le_of_ble_eq_true rfl, Nat.le_of_ble_eq_true rfl⟩) (fun _ H locs hp hw => ?_)
    have hw : ZW E A s [(h0, ob 6 [.ref aN, .ref aH, .int (nI (incN ed)), .int (nI mc), .ref aO, .ref aR, .ref aL, .ref aG, .ref aT, .ref aE, .ref aB, .ref aV]), (aN, ia E 97 (nA Nw)), (aH, ia E 485 (nA (edH Nw Hs ed)))] H locs := hw
    refine lv_aload_n hx hb dX6_removeSpecimen_14 rfl (lv_at hl 0 rfl) ?_
    refine z_get cx hw 0 0 rfl rfl inlX6 (by decide) wd_70 rfl dX6_removeSpecimen_15 ?_
    refine lv_bipush (v := nI 96) hx hb dX6_removeSpecimen_18 (by decide) ?_
    refine lv_dup2_11 hx hb dX6_removeSpecimen_20 rfl rfl ?_
    refine z_aldN cx hw 1 rfl (96) rfl (by omega) (by decide) dX6_removeSpecimen_21 ?_
    refine lv_iconst (v := nI 1) hx hb dX6_removeSpecimen_22 (by decide) ?_
    refine z_isub hx hb ((Nw 96) - 1) (by omega) rfl dX6_removeSpecimen_23 ?_
    refine z_astN cx hw 1 rfl (96) rfl (by omega) (by decide) dX6_removeSpecimen_24 (fun H locs hw => ?_)
    have hw : ZW E A s [(h0, ob 6 [.ref aN, .ref aH, .int (nI (incN ed)), .int (nI mc), .ref aO, .ref aR, .ref aL, .ref aG, .ref aT, .ref aE, .ref aB, .ref aV]), (aN, ia E 97 (nA (updN Nw 96 ((Nw 96) - 1)))), (aH, ia E 485 (nA (edH Nw Hs ed)))] H locs := hw
    refine lv_iconst (v := nI 4) hx hb dX6_removeSpecimen_25 (by decide) ?_
    refine lv_iload_n hx hb dX6_removeSpecimen_26 rfl (lv_at hl 1 rfl) ?_
    refine z_imul hx hb (4 * k) rfl dX6_removeSpecimen_27 ?_
    refine lv_istore_n (lv' := [(2, .int (nI (4 * k))), (0, .ref h0), (1, .int (nI k))]) hx hb dX6_removeSpecimen_28 rfl hl (by decide) rfl (fun ls hl => ?_)
    have loop_29 : ∀ (fuel : Nat) (i : Nat) (hi1 : 4 * k ≤ i) (hi2 : i ≤ 4 * Nw 96 - 4) (hm : 4 * Nw 96 - i < fuel) (H : Heap) (locs : List Loc) (ls : Array Slot), ZW E A s [(h0, ob 6 [.ref aN, .ref aH, .int (nI (incN ed)), .int (nI mc), .ref aO, .ref aR, .ref aL, .ref aG, .ref aT, .ref aE, .ref aB, .ref aV]), (aN, ia E 97 (nA (updN (cpyN Nw Nw (4 * k + 4) (4 * k) (i - 4 * k)) 96 (Nw 96 - 1)))), (aH, ia E 485 (nA (edH Nw Hs ed)))] H locs → lv_has ls 3 [(0, .ref h0), (1, .int (nI k)), (2, .int (nI i))] → W p l e rmX6_removeSpecimen s m args below meth c H locs 0 0 Q (F0 m 29 ls []) := by
      intro fuel
      induction fuel with
      | zero => intro i hi1 hi2 hm; exact absurd hm (Nat.not_lt_zero _)
      | succ fuel ih_29 =>
        intro i hi1 hi2 hm H locs ls hw hl
        refine lv_iload_n hx hb dX6_removeSpecimen_29 rfl (lv_at hl 2 rfl) ?_
        refine lv_iconst (v := nI 4) hx hb dX6_removeSpecimen_30 (by decide) ?_
        refine lv_aload_n hx hb dX6_removeSpecimen_31 rfl (lv_at hl 0 rfl) ?_
        refine z_get cx hw 0 0 rfl rfl inlX6 (by decide) wd_70 rfl dX6_removeSpecimen_32 ?_
        refine lv_bipush (v := nI 96) hx hb dX6_removeSpecimen_35 (by decide) ?_
        refine z_aldN cx hw 1 rfl (96) rfl (by omega) (by decide) dX6_removeSpecimen_37 ?_
        rw [updN_eq]
        refine z_imul hx hb (4 * (Nw 96 - 1)) rfl dX6_removeSpecimen_38 ?_
        refine z_icmp_ge hx hb (by omega) (by omega) 62 dX6_removeSpecimen_39 (by decide) (fun c_39 => ?_) (fun c_39 => ?_)
        · refine lv_aload_n hx hb dX6_removeSpecimen_62 rfl (lv_at hl 0 rfl) ?_
          refine z_get cx hw 0 0 rfl rfl inlX6 (by decide) wd_70 rfl dX6_removeSpecimen_63 ?_
          refine lv_bipush (v := nI 96) hx hb dX6_removeSpecimen_66 (by decide) ?_
          refine z_aldN cx hw 1 rfl (96) rfl (by omega) (by decide) dX6_removeSpecimen_68 ?_
          rw [updN_eq]
          have ei_ : i = 4 * Nw 96 - 4 := by omega
          have hs_ : rmvM (Nw, Hs, ed) (nI k) = savM (Nw, Hs, ed) (updN (rmv Nw k (Nw 96)) 96 (Nw 96 - 1)) := by rw [rmvM, if_pos c_5, cl_nI hk (by omega)]
          have hq_ : updN (cpyN Nw Nw (4 * k + 4) (4 * k) (i - 4 * k)) 96 (Nw 96 - 1) = updN (rmv Nw k (Nw 96)) 96 (Nw 96 - 1) := by rw [ei_, rmv, show 4 * Nw 96 - 4 - 4 * k = 4 * Nw 96 - (4 * k + 4) from by omega]
          have e_r69_0 : (incN ed) = ((rmvM (Nw, Hs, ed) (nI k)).2.2) := by rw [hs_]; rfl
          have e_r69_1 : (updN (cpyN Nw Nw (4 * k + 4) (4 * k) (i - 4 * k)) 96 (Nw 96 - 1)) = ((rmvM (Nw, Hs, ed) (nI k)).1) := by rw [hs_, hq_]; rfl
          have e_r69_2 : (edH Nw Hs ed) = ((rmvM (Nw, Hs, ed) (nI k)).2.1) := by rw [hs_]; rfl
          exact ret (nI (Nw 96 - 1)) () 69 ls H locs dX6_removeSpecimen_69 (by rw [rmvR, if_pos c_5]) ((hw).cast (zc (congrArg (fun z => ((h0, ob 6 [.ref aN, .ref aH, .int (nI z), .int (nI mc), .ref aO, .ref aR, .ref aL, .ref aG, .ref aT, .ref aE, .ref aB, .ref aV]) : Nat × va_E)) e_r69_0) (zc (congrArg (fun z => ((aN, ia E 97 (nA z)) : Nat × va_E)) e_r69_1) (zc (congrArg (fun z => ((aH, ia E 485 (nA z)) : Nat × va_E)) e_r69_2) rfl))))
        · refine lv_aload_n hx hb dX6_removeSpecimen_42 rfl (lv_at hl 0 rfl) ?_
          refine z_get cx hw 0 0 rfl rfl inlX6 (by decide) wd_70 rfl dX6_removeSpecimen_43 ?_
          refine lv_iload_n hx hb dX6_removeSpecimen_46 rfl (lv_at hl 2 rfl) ?_
          refine lv_aload_n hx hb dX6_removeSpecimen_47 rfl (lv_at hl 0 rfl) ?_
          refine z_get cx hw 0 0 rfl rfl inlX6 (by decide) wd_70 rfl dX6_removeSpecimen_48 ?_
          refine lv_iload_n hx hb dX6_removeSpecimen_51 rfl (lv_at hl 2 rfl) ?_
          refine lv_iconst (v := nI 4) hx hb dX6_removeSpecimen_52 (by decide) ?_
          refine z_iadd hx hb (i + 4) rfl dX6_removeSpecimen_53 ?_
          refine z_aldN cx hw 1 rfl (i + 4) rfl (by omega) (by decide) dX6_removeSpecimen_54 ?_
          rw [updN_ne _ _ (by omega), cpyN, if_neg (by omega)]
          refine z_astN cx hw 1 rfl (i) rfl (by omega) (by decide) dX6_removeSpecimen_55 (fun H locs hw => ?_)
          have hw : ZW E A s [(h0, ob 6 [.ref aN, .ref aH, .int (nI (incN ed)), .int (nI mc), .ref aO, .ref aR, .ref aL, .ref aG, .ref aT, .ref aE, .ref aB, .ref aV]), (aN, ia E 97 (nA (updN (updN (cpyN Nw Nw (4 * k + 4) (4 * k) (i - 4 * k)) 96 (Nw 96 - 1)) i (Nw (i + 4))))), (aH, ia E 485 (nA (edH Nw Hs ed)))] H locs := hw
          refine lv_iinc (v := nI (i + 1)) (lv' := [(2, .int (nI (i + 1))), (0, .ref h0), (1, .int (nI k))]) hx hb dX6_removeSpecimen_56 hl (k := 2) rfl (nI_1 _) (by decide) rfl (fun ls hl => ?_)
          refine lv_goto (tgt := 29) hx hb dX6_removeSpecimen_59 (by decide) ?_
          have e_b29_0 : (updN (updN (cpyN Nw Nw (4 * k + 4) (4 * k) (i - 4 * k)) 96 (Nw 96 - 1)) i (Nw (i + 4))) = (updN (cpyN Nw Nw (4 * k + 4) (4 * k) ((i + 1) - 4 * k)) 96 (Nw 96 - 1)) := by rw [rmk_s hi1 (by omega)]
          exact ih_29 (i + 1) (by omega) (by omega) (by omega) _ _ ls ((hw).cast (zc rfl (zc (congrArg (fun z => ((aN, ia E 97 (nA z)) : Nat × va_E)) e_b29_0) rfl))) (lv_add (lv_add (lv_add (lv_nil hl) (lv_at hl 0 rfl)) (lv_at hl 2 rfl)) (lv_at hl 1 rfl))
    have e_i29_0 : (updN Nw 96 ((Nw 96) - 1)) = (updN (cpyN Nw Nw (4 * k + 4) (4 * k) ((4 * k) - 4 * k)) 96 (Nw 96 - 1)) := by rw [Nat.sub_self, ← cpyN_0]
    exact loop_29 _ (4 * k) (by omega) (by omega) (Nat.lt_succ_self _) _ _ ls ((hw).cast (zc rfl (zc (congrArg (fun z => ((aN, ia E 97 (nA z)) : Nat × va_E)) e_i29_0) rfl))) (lv_add (lv_add (lv_add (lv_nil hl) (lv_at hl 0 rfl)) (lv_at hl 2 rfl)) (lv_at hl 1 rfl))
  · refine lv_iconst (v := (-1)) hx hb dX6_removeSpecimen_8 (by decide) ?_
    have hs_ : rmvM (Nw, Hs, ed) x = (Nw, Hs, ed) := if_neg (fun z => by dsimp only at z; rw [c_5] at z; exact absurd z (by decide))
    have e_r9_0 : ed = ((rmvM (Nw, Hs, ed) x).2.2) := by rw [hs_]
    have e_r9_1 : Nw = ((rmvM (Nw, Hs, ed) x).1) := by rw [hs_]
    have e_r9_2 : Hs = ((rmvM (Nw, Hs, ed) x).2.1) := by rw [hs_]
    exact ret ((-1)) () 9 ls H locs dX6_removeSpecimen_9 (by simp only [rmvR, c_5]; rfl) ((hw.perm [1, 2, 0] rfl (by decide)).cast (zc (congrArg (fun z => ((h0, ob 6 [.ref aN, .ref aH, .int (nI z), .int (nI mc), .ref aO, .ref aR, .ref aL, .ref aG, .ref aT, .ref aE, .ref aB, .ref aV]) : Nat × va_E)) e_r9_0) (zc (congrArg (fun z => ((aN, ia E 97 (nA z)) : Nat × va_E)) e_r9_1) (zc (congrArg (fun z => ((aH, ia E 485 (nA z)) : Nat × va_E)) e_r9_2) rfl))))

def rmX6_setWear : Room := { frames := 2, cells := 0, slots := 0, locals := 43 }
set_option maxHeartbeats 4000000 in
set_option maxRecDepth 100000 in
theorem c_X6_setWear (l : Launch) (E : ZE) (h0 aN aH aO aR aL aG aT aE aB aV : Nat) (ed mc : Nat) (Nw Hs : Nat → Nat) (x sd w : Int32) (hn : Nw 96 ≤ 24) (he : ed ≤ 5) : ZMi l yX6_setWear cX6_setWear 5 (some .int) rmX6_setWear E [.ref h0, .int x, .int sd, .int w] [(h0, ob 6 [.ref aN, .ref aH, .int (nI ed), .int (nI mc), .ref aO, .ref aR, .ref aL, .ref aG, .ref aT, .ref aE, .ref aB, .ref aV]), (aN, ia E 97 (nA Nw)), (aH, ia E 485 (nA Hs))] (S := Unit) (fun r _ => r = setR Nw (Nw 96) x sd w) (fun _ => [(h0, ob 6 [.ref aN, .ref aH, .int (nI ((setM (Nw, Hs, ed) x sd w).2.2)), .int (nI mc), .ref aO, .ref aR, .ref aL, .ref aG, .ref aT, .ref aE, .ref aB, .ref aV]), (aN, ia E 97 (nA ((setM (Nw, Hs, ed) x sd w).1))), (aH, ia E 485 (nA ((setM (Nw, Hs, ed) x sd w).2.1)))]) := by
  refine z_mi (by decide) (Nat.le_of_ble_eq_true rfl) ?_
  intro p e s m args below meth c A Q ls cx hin hw hl ret
  obtain ⟨hx, hb, hml, hown, hts, hK, hN, hA, hlk⟩ := id cx
  have hl : lv_has ls 5 [(0, .ref h0), (1, .int x), (2, .int sd), (3, .int w)] := hl
  refine lv_aload_n hx hb dX6_setWear_0 rfl (lv_at hl 0 rfl) ?_
  refine lv_iload_n hx hb dX6_setWear_1 rfl (lv_at hl 1 rfl) ?_
  refine z_ri0 (wr := [(aH, ia E 485 (nA Hs))]) cx hw [0, 1] [2] rfl rfl (by decide) (by decide) rfl rfl (z_runV (As := [.int x]) (rest := []) cx hw rfl rfl [0, 1] rfl rfl (c_X6_isSpecimen l E h0 aN aH aO aR aL aG aT aE aB aV ed mc Nw x (by omega) s.heap.size) mf_X6_isSpecimen wd_131 ⟨Nat.le_of_ble_eq_true rfl, Nat.le_of_ble_eq_true rfl⟩ hl (Nat.le_of_ble_eq_true rfl) dX6_setWear_2 ⟨Nat.le_of_ble_eq_true rfl, Nat.le_of_ble_eq_true rfl⟩) (fun r _ H locs hp hw => ?_)
  have hr_2 := hp
  have hr_2 : r = bI (inR x (Nw 96)) := hr_2
  subst hr_2
  have hw : ZW E A s [(aH, ia E 485 (nA Hs)), (h0, ob 6 [.ref aN, .ref aH, .int (nI ed), .int (nI mc), .ref aO, .ref aR, .ref aL, .ref aG, .ref aT, .ref aE, .ref aB, .ref aV]), (aN, ia E 97 (nA Nw))] H locs := hw
  refine z_ifb_eq hx hb 24 dX6_setWear_5 (by decide) (fun c_5 => ?_) (fun c_5 => ?_)
  · refine lv_iconst (v := (-1)) hx hb dX6_setWear_24 (by decide) ?_
    have ho_ : okW (Nw 96) (x) (sd) w = false := by simp [okW, c_5]
    have hs_ : setM (Nw, Hs, ed) (x) (sd) w = (Nw, Hs, ed) := if_neg (fun z => by dsimp only at z; rw [ho_] at z; exact absurd z (by decide))
    have e_r25_0 : ed = ((setM (Nw, Hs, ed) x sd w).2.2) := by rw [hs_]
    have e_r25_1 : Nw = ((setM (Nw, Hs, ed) x sd w).1) := by rw [hs_]
    have e_r25_2 : Hs = ((setM (Nw, Hs, ed) x sd w).2.1) := by rw [hs_]
    exact ret ((-1)) () 25 ls H locs dX6_setWear_25 (by simp only [setR, ho_]; rfl) ((hw.perm [1, 2, 0] rfl (by decide)).cast (zc (congrArg (fun z => ((h0, ob 6 [.ref aN, .ref aH, .int (nI z), .int (nI mc), .ref aO, .ref aR, .ref aL, .ref aG, .ref aT, .ref aE, .ref aB, .ref aV]) : Nat × va_E)) e_r25_0) (zc (congrArg (fun z => ((aN, ia E 97 (nA z)) : Nat × va_E)) e_r25_1) (zc (congrArg (fun z => ((aH, ia E 485 (nA z)) : Nat × va_E)) e_r25_2) rfl))))
  · obtain ⟨k, hk, rfl⟩ := inR_get c_5 (by omega)
    refine lv_iload_n hx hb dX6_setWear_8 rfl (lv_at hl 2 rfl) ?_
    refine z_ri0 (wr := [(aH, ia E 485 (nA Hs)), (h0, ob 6 [.ref aN, .ref aH, .int (nI ed), .int (nI mc), .ref aO, .ref aR, .ref aL, .ref aG, .ref aT, .ref aE, .ref aB, .ref aV]), (aN, ia E 97 (nA Nw))]) cx hw [] [0, 1, 2] rfl rfl (by decide) (by decide) rfl rfl (z_runS (As := [.int sd]) (rest := []) cx hw [] rfl rfl (c_X6_isSide l E sd  H.size) mf_X6_isSide wd_149 ⟨Nat.le_of_ble_eq_true rfl, Nat.le_of_ble_eq_true rfl⟩ hl (Nat.le_of_ble_eq_true rfl) dX6_setWear_9 ⟨Nat.le_of_ble_eq_true rfl, Nat.le_of_ble_eq_true rfl⟩) (fun r _ H locs hp hw => ?_)
    have hr_9 := hp
    have hr_9 : r = bI (inR sd 2) := hr_9
    subst hr_9
    have hw : ZW E A s [(aH, ia E 485 (nA Hs)), (h0, ob 6 [.ref aN, .ref aH, .int (nI ed), .int (nI mc), .ref aO, .ref aR, .ref aL, .ref aG, .ref aT, .ref aE, .ref aB, .ref aV]), (aN, ia E 97 (nA Nw))] H locs := hw
    refine z_ifb_eq hx hb 24 dX6_setWear_12 (by decide) (fun c_12 => ?_) (fun c_12 => ?_)
    · refine lv_iconst (v := (-1)) hx hb dX6_setWear_24 (by decide) ?_
      have ho_ : okW (Nw 96) (nI k) (sd) w = false := by simp [okW, c_12]
      have hs_ : setM (Nw, Hs, ed) (nI k) (sd) w = (Nw, Hs, ed) := if_neg (fun z => by dsimp only at z; rw [ho_] at z; exact absurd z (by decide))
      have e_r25_0 : ed = ((setM (Nw, Hs, ed) (nI k) sd w).2.2) := by rw [hs_]
      have e_r25_1 : Nw = ((setM (Nw, Hs, ed) (nI k) sd w).1) := by rw [hs_]
      have e_r25_2 : Hs = ((setM (Nw, Hs, ed) (nI k) sd w).2.1) := by rw [hs_]
      exact ret ((-1)) () 25 ls H locs dX6_setWear_25 (by simp only [setR, ho_]; rfl) ((hw.perm [1, 2, 0] rfl (by decide)).cast (zc (congrArg (fun z => ((h0, ob 6 [.ref aN, .ref aH, .int (nI z), .int (nI mc), .ref aO, .ref aR, .ref aL, .ref aG, .ref aT, .ref aE, .ref aB, .ref aV]) : Nat × va_E)) e_r25_0) (zc (congrArg (fun z => ((aN, ia E 97 (nA z)) : Nat × va_E)) e_r25_1) (zc (congrArg (fun z => ((aH, ia E 485 (nA z)) : Nat × va_E)) e_r25_2) rfl))))
    · obtain ⟨t, ht, rfl⟩ := inR_get c_12 (by omega)
      refine lv_iload_n hx hb dX6_setWear_15 rfl (lv_at hl 3 rfl) ?_
      refine lv_iconst (v := nI 0) hx hb dX6_setWear_16 (by decide) ?_
      refine lv_iconst (v := nI 5) hx hb dX6_setWear_17 (by decide) ?_
      refine z_ri0 (wr := [(aH, ia E 485 (nA Hs)), (h0, ob 6 [.ref aN, .ref aH, .int (nI ed), .int (nI mc), .ref aO, .ref aR, .ref aL, .ref aG, .ref aT, .ref aE, .ref aB, .ref aV]), (aN, ia E 97 (nA Nw))]) cx hw [] [0, 1, 2] rfl rfl (by decide) (by decide) rfl rfl (z_runS (As := [.int w, .int (nI 0), .int (nI 5)]) (rest := []) cx hw [] rfl rfl (c_X6_in l E w (nI 0) (nI 5)  H.size) mf_X6_in wd_108 ⟨Nat.le_of_ble_eq_true rfl, Nat.le_of_ble_eq_true rfl⟩ hl (Nat.le_of_ble_eq_true rfl) dX6_setWear_18 ⟨Nat.le_of_ble_eq_true rfl, Nat.le_of_ble_eq_true rfl⟩) (fun r _ H locs hp hw => ?_)
      have hr_18 := hp
      have hr_18 : r = bI (decide ((nI 0) ≤ w ∧ w ≤ (nI 5))) := hr_18
      subst hr_18
      have hw : ZW E A s [(aH, ia E 485 (nA Hs)), (h0, ob 6 [.ref aN, .ref aH, .int (nI ed), .int (nI mc), .ref aO, .ref aR, .ref aL, .ref aG, .ref aT, .ref aE, .ref aB, .ref aV]), (aN, ia E 97 (nA Nw))] H locs := hw
      rw [show decide (nI 0 ≤ w ∧ w ≤ nI 5) = inR w 6 from inR_le (by decide)]
      refine z_ifb_ne hx hb 26 dX6_setWear_21 (by decide) (fun c_21 => ?_) (fun c_21 => ?_)
      · obtain ⟨v, hv, rfl⟩ := inR_get c_21 (by omega)
        refine lv_aload_n hx hb dX6_setWear_26 rfl (lv_at hl 0 rfl) ?_
        refine z_rv0 (wr := []) cx hw [1, 2, 0] [] rfl rfl (by decide) (by decide) rfl rfl (z_runV (As := []) (rest := []) cx hw rfl rfl [1, 2, 0] rfl rfl (c_X6_edit l E h0 aN aH aO aR aL aG aT aE aB aV ed mc Nw Hs (by omega) H.size) mf_X6_edit wd_111 ⟨Nat.le_of_ble_eq_true rfl, Nat.le_of_ble_eq_true rfl⟩ hl (Nat.le_of_ble_eq_true rfl) dX6_setWear_27 ⟨Nat.le_of_ble_eq_true rfl, Nat.le_of_ble_eq_true rfl⟩) (fun _ H locs hp hw => ?_)
        have hw : ZW E A s [(h0, ob 6 [.ref aN, .ref aH, .int (nI (incN ed)), .int (nI mc), .ref aO, .ref aR, .ref aL, .ref aG, .ref aT, .ref aE, .ref aB, .ref aV]), (aN, ia E 97 (nA Nw)), (aH, ia E 485 (nA (edH Nw Hs ed)))] H locs := hw
        refine lv_aload_n hx hb dX6_setWear_30 rfl (lv_at hl 0 rfl) ?_
        refine z_get cx hw 0 0 rfl rfl inlX6 (by decide) wd_70 rfl dX6_setWear_31 ?_
        refine lv_iconst (v := nI 4) hx hb dX6_setWear_34 (by decide) ?_
        refine lv_iload_n hx hb dX6_setWear_35 rfl (lv_at hl 1 rfl) ?_
        refine z_imul hx hb (4 * k) rfl dX6_setWear_36 ?_
        refine lv_iconst (v := nI 2) hx hb dX6_setWear_37 (by decide) ?_
        refine z_iadd hx hb ((4 * k) + 2) rfl dX6_setWear_38 ?_
        refine lv_iload_n hx hb dX6_setWear_39 rfl (lv_at hl 2 rfl) ?_
        refine z_iadd hx hb (((4 * k) + 2) + t) rfl dX6_setWear_40 ?_
        refine z_aldN cx hw 1 rfl (4 * k + 2 + t) (congrArg nI (by omega)) (by omega) (by decide) dX6_setWear_41 ?_
        refine lv_istore (lv' := [(4, .int (nI (Nw (4 * k + 2 + t)))), (0, .ref h0), (1, .int (nI k)), (2, .int (nI t)), (3, .int (nI v))]) hx hb dX6_setWear_42 hl (by decide) rfl (fun ls hl => ?_)
        refine lv_aload_n hx hb dX6_setWear_44 rfl (lv_at hl 1 rfl) ?_
        refine z_get cx hw 0 0 rfl rfl inlX6 (by decide) wd_70 rfl dX6_setWear_45 ?_
        refine lv_iconst (v := nI 4) hx hb dX6_setWear_48 (by decide) ?_
        refine lv_iload_n hx hb dX6_setWear_49 rfl (lv_at hl 2 rfl) ?_
        refine z_imul hx hb (4 * k) rfl dX6_setWear_50 ?_
        refine lv_iconst (v := nI 2) hx hb dX6_setWear_51 (by decide) ?_
        refine z_iadd hx hb ((4 * k) + 2) rfl dX6_setWear_52 ?_
        refine lv_iload_n hx hb dX6_setWear_53 rfl (lv_at hl 3 rfl) ?_
        refine z_iadd hx hb (((4 * k) + 2) + t) rfl dX6_setWear_54 ?_
        refine lv_iload_n hx hb dX6_setWear_55 rfl (lv_at hl 4 rfl) ?_
        refine z_astN cx hw 1 rfl (4 * k + 2 + t) (congrArg nI (by omega)) (by omega) (by decide) dX6_setWear_56 (fun H locs hw => ?_)
        have hw : ZW E A s [(h0, ob 6 [.ref aN, .ref aH, .int (nI (incN ed)), .int (nI mc), .ref aO, .ref aR, .ref aL, .ref aG, .ref aT, .ref aE, .ref aB, .ref aV]), (aN, ia E 97 (nA (updN Nw (4 * k + 2 + t) v))), (aH, ia E 485 (nA (edH Nw Hs ed)))] H locs := hw
        refine lv_iload hx hb dX6_setWear_57 (lv_at hl 0 rfl) ?_
        have ho_ : okW (Nw 96) (nI k) (nI t) (nI v) = true := by simp only [okW, c_5, c_12, c_21, Bool.and_self]
        have hs_ : setM (Nw, Hs, ed) (nI k) (nI t) (nI v) = savM (Nw, Hs, ed) (updN Nw (4 * k + 2 + t) v) := by rw [setM, if_pos ho_, cl_nI hk (by omega), cl_nI ht (by decide), cl_nI hv (by decide)]
        have e_r59_0 : (incN ed) = ((setM (Nw, Hs, ed) (nI k) (nI t) (nI v)).2.2) := by rw [hs_]; rfl
        have e_r59_1 : (updN Nw (4 * k + 2 + t) v) = ((setM (Nw, Hs, ed) (nI k) (nI t) (nI v)).1) := by rw [hs_]; rfl
        have e_r59_2 : (edH Nw Hs ed) = ((setM (Nw, Hs, ed) (nI k) (nI t) (nI v)).2.1) := by rw [hs_]; rfl
        exact ret (nI (Nw (4 * k + 2 + t))) () 59 ls H locs dX6_setWear_59 (by simp only [setR, ho_, if_true]; rw [cl_nI hk (by omega), cl_nI ht (by decide)]) ((hw).cast (zc (congrArg (fun z => ((h0, ob 6 [.ref aN, .ref aH, .int (nI z), .int (nI mc), .ref aO, .ref aR, .ref aL, .ref aG, .ref aT, .ref aE, .ref aB, .ref aV]) : Nat × va_E)) e_r59_0) (zc (congrArg (fun z => ((aN, ia E 97 (nA z)) : Nat × va_E)) e_r59_1) (zc (congrArg (fun z => ((aH, ia E 485 (nA z)) : Nat × va_E)) e_r59_2) rfl))))
      · refine lv_iconst (v := (-1)) hx hb dX6_setWear_24 (by decide) ?_
        have ho_ : okW (Nw 96) (nI k) (nI t) w = false := by simp [okW, c_21]
        have hs_ : setM (Nw, Hs, ed) (nI k) (nI t) w = (Nw, Hs, ed) := if_neg (fun z => by dsimp only at z; rw [ho_] at z; exact absurd z (by decide))
        have e_r25_0 : ed = ((setM (Nw, Hs, ed) (nI k) (nI t) w).2.2) := by rw [hs_]
        have e_r25_1 : Nw = ((setM (Nw, Hs, ed) (nI k) (nI t) w).1) := by rw [hs_]
        have e_r25_2 : Hs = ((setM (Nw, Hs, ed) (nI k) (nI t) w).2.1) := by rw [hs_]
        exact ret ((-1)) () 25 ls H locs dX6_setWear_25 (by simp only [setR, ho_]; rfl) ((hw.perm [1, 2, 0] rfl (by decide)).cast (zc (congrArg (fun z => ((h0, ob 6 [.ref aN, .ref aH, .int (nI z), .int (nI mc), .ref aO, .ref aR, .ref aL, .ref aG, .ref aT, .ref aE, .ref aB, .ref aV]) : Nat × va_E)) e_r25_0) (zc (congrArg (fun z => ((aN, ia E 97 (nA z)) : Nat × va_E)) e_r25_1) (zc (congrArg (fun z => ((aH, ia E 485 (nA z)) : Nat × va_E)) e_r25_2) rfl))))

def rmX6_specimens : Room := { frames := 0, cells := 0, slots := 0, locals := 0 }
set_option maxHeartbeats 4000000 in
set_option maxRecDepth 100000 in
theorem c_X6_specimens (l : Launch) (E : ZE) (h0 aN aH aO aR aL aG aT aE aB aV : Nat) (ed mc : Nat) (Nw : Nat → Nat) (sd a : Nat) (hn : Nw 96 ≤ 24) (hF : ∀ j, j < 96 → Nw j < 10) (hs : sd < 2) (ha : a < 10) : ZMi l yX6_specimens cX6_specimens 5 (some .int) rmX6_specimens E [.ref h0, .int (nI sd), .int (nI a)] [(h0, ob 6 [.ref aN, .ref aH, .int (nI ed), .int (nI mc), .ref aO, .ref aR, .ref aL, .ref aG, .ref aT, .ref aE, .ref aB, .ref aV]), (aN, ia E 97 (nA Nw))] (S := Unit) (fun r _ => r = nI (cnt Nw sd a (Nw 96))) (fun _ => [(h0, ob 6 [.ref aN, .ref aH, .int (nI ed), .int (nI mc), .ref aO, .ref aR, .ref aL, .ref aG, .ref aT, .ref aE, .ref aB, .ref aV]), (aN, ia E 97 (nA Nw))]) := by
  refine z_mi (by decide) (Nat.le_of_ble_eq_true rfl) ?_
  intro p e s m args below meth c A Q ls cx hin hw hl ret
  obtain ⟨hx, hb, hml, hown, hts, hK, hN, hA, hlk⟩ := id cx
  have hl : lv_has ls 5 [(0, .ref h0), (1, .int (nI sd)), (2, .int (nI a))] := hl
  refine lv_iconst (v := nI 0) hx hb dX6_specimens_0 (by decide) ?_
  refine lv_istore_n (lv' := [(3, .int (nI 0)), (0, .ref h0), (1, .int (nI sd)), (2, .int (nI a))]) hx hb dX6_specimens_1 rfl hl (by decide) rfl (fun ls hl => ?_)
  refine lv_iconst (v := nI 0) hx hb dX6_specimens_2 (by decide) ?_
  refine lv_istore (lv' := [(4, .int (nI 0)), (3, .int (nI 0)), (0, .ref h0), (1, .int (nI sd)), (2, .int (nI a))]) hx hb dX6_specimens_3 hl (by decide) rfl (fun ls hl => ?_)
  have loop_5 : ∀ (fuel : Nat) (k : Nat) (hk : k ≤ Nw 96) (hm : Nw 96 - k < fuel) (H : Heap) (locs : List Loc) (ls : Array Slot), ZW E A s [(h0, ob 6 [.ref aN, .ref aH, .int (nI ed), .int (nI mc), .ref aO, .ref aR, .ref aL, .ref aG, .ref aT, .ref aE, .ref aB, .ref aV]), (aN, ia E 97 (nA Nw))] H locs → lv_has ls 5 [(0, .ref h0), (1, .int (nI sd)), (2, .int (nI a)), (3, .int (nI (cnt Nw sd a k))), (4, .int (nI k))] → W p l e rmX6_specimens s m args below meth c H locs 0 0 Q (F0 m 5 ls []) := by
    intro fuel
    induction fuel with
    | zero => intro k hk hm; exact absurd hm (Nat.not_lt_zero _)
    | succ fuel ih_5 =>
      intro k hk hm H locs ls hw hl
      refine lv_iload hx hb dX6_specimens_5 (lv_at hl 4 rfl) ?_
      refine lv_aload_n hx hb dX6_specimens_7 rfl (lv_at hl 0 rfl) ?_
      refine z_get cx hw 0 0 rfl rfl inlX6 (by decide) wd_70 rfl dX6_specimens_8 ?_
      refine lv_bipush (v := nI 96) hx hb dX6_specimens_11 (by decide) ?_
      refine z_aldN cx hw 1 rfl (96) rfl (by omega) (by decide) dX6_specimens_13 ?_
      refine z_icmp_ge hx hb (by omega) (by omega) 46 dX6_specimens_14 (by decide) (fun c_14 => ?_) (fun c_14 => ?_)
      · refine lv_iload_n hx hb dX6_specimens_46 rfl (lv_at hl 3 rfl) ?_
        have e_ : k = Nw 96 := by omega
        exact ret (nI (cnt Nw sd a k)) () 47 ls H locs dX6_specimens_47 (congrArg nI (by rw [e_])) (hw)
      · refine lv_iload_n hx hb dX6_specimens_17 rfl (lv_at hl 3 rfl) ?_
        refine lv_aload_n hx hb dX6_specimens_18 rfl (lv_at hl 0 rfl) ?_
        refine z_get cx hw 0 0 rfl rfl inlX6 (by decide) wd_70 rfl dX6_specimens_19 ?_
        refine lv_iconst (v := nI 4) hx hb dX6_specimens_22 (by decide) ?_
        refine lv_iload hx hb dX6_specimens_23 (lv_at hl 4 rfl) ?_
        refine z_imul hx hb (4 * k) rfl dX6_specimens_25 ?_
        refine lv_iload_n hx hb dX6_specimens_26 rfl (lv_at hl 1 rfl) ?_
        refine z_iadd hx hb ((4 * k) + sd) rfl dX6_specimens_27 ?_
        refine z_aldN cx hw 1 rfl ((4 * k) + sd) rfl (by omega) (by decide) dX6_specimens_28 ?_
        have h_ := hF (4 * k + sd) (by omega)
        refine lv_iload_n hx hb dX6_specimens_29 rfl (lv_at hl 2 rfl) ?_
        refine z_icmp_ne hx hb (by omega) (by omega) 37 dX6_specimens_30 (by decide) (fun c_30 => ?_) (fun c_30 => ?_)
        · refine lv_iconst (v := nI 0) hx hb dX6_specimens_37 (by decide) ?_
          refine z_iadd hx hb (cnt Nw sd a k) rfl dX6_specimens_38 ?_
          refine lv_istore_n (lv' := [(3, .int (nI (cnt Nw sd a k))), (0, .ref h0), (1, .int (nI sd)), (2, .int (nI a)), (4, .int (nI k))]) hx hb dX6_specimens_39 rfl hl (by decide) rfl (fun ls hl => ?_)
          refine lv_iinc (v := nI (k + 1)) (lv' := [(4, .int (nI (k + 1))), (3, .int (nI (cnt Nw sd a k))), (0, .ref h0), (1, .int (nI sd)), (2, .int (nI a))]) hx hb dX6_specimens_40 hl (k := 4) rfl (nI_1 _) (by decide) rfl (fun ls hl => ?_)
          refine lv_goto (tgt := 5) hx hb dX6_specimens_43 (by decide) ?_
          exact ih_5 (k + 1) (by omega) (by omega) _ _ ls (hw) (lv_add (lv_add (lv_add (lv_add (lv_add (lv_nil hl) (lv_at hl 0 rfl)) (lv_eqv (lv_at hl 1 rfl) (zN (by simp [cnt, c_30])))) (lv_at hl 4 rfl)) (lv_at hl 3 rfl)) (lv_at hl 2 rfl))
        · refine lv_iconst (v := nI 1) hx hb dX6_specimens_33 (by decide) ?_
          refine lv_goto (tgt := 38) hx hb dX6_specimens_34 (by decide) ?_
          refine z_iadd hx hb ((cnt Nw sd a k) + 1) rfl dX6_specimens_38 ?_
          refine lv_istore_n (lv' := [(3, .int (nI ((cnt Nw sd a k) + 1))), (0, .ref h0), (1, .int (nI sd)), (2, .int (nI a)), (4, .int (nI k))]) hx hb dX6_specimens_39 rfl hl (by decide) rfl (fun ls hl => ?_)
          refine lv_iinc (v := nI (k + 1)) (lv' := [(4, .int (nI (k + 1))), (3, .int (nI ((cnt Nw sd a k) + 1))), (0, .ref h0), (1, .int (nI sd)), (2, .int (nI a))]) hx hb dX6_specimens_40 hl (k := 4) rfl (nI_1 _) (by decide) rfl (fun ls hl => ?_)
          refine lv_goto (tgt := 5) hx hb dX6_specimens_43 (by decide) ?_
          exact ih_5 (k + 1) (by omega) (by omega) _ _ ls (hw) (lv_add (lv_add (lv_add (lv_add (lv_add (lv_nil hl) (lv_at hl 0 rfl)) (lv_eqv (lv_at hl 1 rfl) (zN (by simp [cnt, c_30])))) (lv_at hl 4 rfl)) (lv_at hl 3 rfl)) (lv_at hl 2 rfl))
  exact loop_5 _ 0 (by omega) (Nat.lt_succ_self _) _ _ ls (hw) (lv_add (lv_add (lv_add (lv_add (lv_add (lv_nil hl) (lv_at hl 0 rfl)) (lv_eqv (lv_at hl 1 rfl) (zN (by rfl)))) (lv_at hl 4 rfl)) (lv_at hl 3 rfl)) (lv_at hl 2 rfl))

def rmX6_mergeDies : Room := { frames := 3, cells := 0, slots := 0, locals := 63 }
set_option maxHeartbeats 4000000 in
set_option maxRecDepth 100000 in
theorem c_X6_mergeDies (l : Launch) (E : ZE) (h0 aN aH aO aR aL aG aT aE aB aV : Nat) (ed mc : Nat) (Nw Hs : Nat → Nat) (sd x y : Int32) (hn : Nw 96 ≤ 24) (hF : ∀ j, j < 96 → Nw j < 10) (he : ed ≤ 5) : ZMi l yX6_mergeDies cX6_mergeDies 6 (some .int) rmX6_mergeDies E [.ref h0, .int sd, .int x, .int y] [(h0, ob 6 [.ref aN, .ref aH, .int (nI ed), .int (nI mc), .ref aO, .ref aR, .ref aL, .ref aG, .ref aT, .ref aE, .ref aB, .ref aV]), (aN, ia E 97 (nA Nw)), (aH, ia E 485 (nA Hs))] (S := Unit) (fun r _ => r = mrgR Nw (Nw 96) sd x y) (fun _ => [(h0, ob 6 [.ref aN, .ref aH, .int (nI ((mrgM (Nw, Hs, ed) sd x y).2.2)), .int (nI mc), .ref aO, .ref aR, .ref aL, .ref aG, .ref aT, .ref aE, .ref aB, .ref aV]), (aN, ia E 97 (nA ((mrgM (Nw, Hs, ed) sd x y).1))), (aH, ia E 485 (nA ((mrgM (Nw, Hs, ed) sd x y).2.1)))]) := by
  refine z_mi (by decide) (Nat.le_of_ble_eq_true rfl) ?_
  intro p e s m args below meth c A Q ls cx hin hw hl ret
  obtain ⟨hx, hb, hml, hown, hts, hK, hN, hA, hlk⟩ := id cx
  have hl : lv_has ls 6 [(0, .ref h0), (1, .int sd), (2, .int x), (3, .int y)] := hl
  refine lv_iload_n hx hb dX6_mergeDies_0 rfl (lv_at hl 1 rfl) ?_
  refine lv_iload_n hx hb dX6_mergeDies_1 rfl (lv_at hl 2 rfl) ?_
  refine z_ri0 (wr := [(h0, ob 6 [.ref aN, .ref aH, .int (nI ed), .int (nI mc), .ref aO, .ref aR, .ref aL, .ref aG, .ref aT, .ref aE, .ref aB, .ref aV]), (aN, ia E 97 (nA Nw)), (aH, ia E 485 (nA Hs))]) cx hw [] [0, 1, 2] rfl rfl (by decide) (by decide) rfl rfl (z_runS (As := [.int sd, .int x]) (rest := []) cx hw [] rfl rfl (c_X6_isDie l E sd x  s.heap.size) mf_X6_isDie wd_171 ⟨Nat.le_of_ble_eq_true rfl, Nat.le_of_ble_eq_true rfl⟩ hl (Nat.le_of_ble_eq_true rfl) dX6_mergeDies_2 ⟨Nat.le_of_ble_eq_true rfl, Nat.le_of_ble_eq_true rfl⟩) (fun r _ H locs hp hw => ?_)
  have hr_2 := hp
  have hr_2 : r = bI (inR sd 2 && inR x 10) := hr_2
  subst hr_2
  have hw : ZW E A s [(h0, ob 6 [.ref aN, .ref aH, .int (nI ed), .int (nI mc), .ref aO, .ref aR, .ref aL, .ref aG, .ref aT, .ref aE, .ref aB, .ref aV]), (aN, ia E 97 (nA Nw)), (aH, ia E 485 (nA Hs))] H locs := hw
  refine z_ifb_eq hx hb 18 dX6_mergeDies_5 (by decide) (fun c_5 => ?_) (fun c_5 => ?_)
  · refine lv_iconst (v := (-1)) hx hb dX6_mergeDies_18 (by decide) ?_
    have ho_ : okM (sd) (x) (y) = false := by rw [okM, c_5]; rfl
    have hs_ : mrgM (Nw, Hs, ed) (sd) (x) (y) = (Nw, Hs, ed) := if_neg (fun z => by rw [ho_] at z; exact absurd z.1 (by decide))
    have e_r19_0 : ed = ((mrgM (Nw, Hs, ed) sd x y).2.2) := by rw [hs_]
    have e_r19_1 : Nw = ((mrgM (Nw, Hs, ed) sd x y).1) := by rw [hs_]
    have e_r19_2 : Hs = ((mrgM (Nw, Hs, ed) sd x y).2.1) := by rw [hs_]
    exact ret ((-1)) () 19 ls H locs dX6_mergeDies_19 (by simp only [mrgR, ho_]; rfl) ((hw).cast (zc (congrArg (fun z => ((h0, ob 6 [.ref aN, .ref aH, .int (nI z), .int (nI mc), .ref aO, .ref aR, .ref aL, .ref aG, .ref aT, .ref aE, .ref aB, .ref aV]) : Nat × va_E)) e_r19_0) (zc (congrArg (fun z => ((aN, ia E 97 (nA z)) : Nat × va_E)) e_r19_1) (zc (congrArg (fun z => ((aH, ia E 485 (nA z)) : Nat × va_E)) e_r19_2) rfl))))
  · obtain ⟨hi1_, hi2_⟩ : inR sd 2 = true ∧ inR x 10 = true := by simpa using c_5
    obtain ⟨t, ht, rfl⟩ := inR_get hi1_ (by omega)
    obtain ⟨a2, ha, rfl⟩ := inR_get hi2_ (by omega)
    refine lv_iload_n hx hb dX6_mergeDies_8 rfl (lv_at hl 3 rfl) ?_
    refine lv_iconst (v := nI 0) hx hb dX6_mergeDies_9 (by decide) ?_
    refine lv_bipush (v := nI 9) hx hb dX6_mergeDies_10 (by decide) ?_
    refine z_ri0 (wr := [(h0, ob 6 [.ref aN, .ref aH, .int (nI ed), .int (nI mc), .ref aO, .ref aR, .ref aL, .ref aG, .ref aT, .ref aE, .ref aB, .ref aV]), (aN, ia E 97 (nA Nw)), (aH, ia E 485 (nA Hs))]) cx hw [] [0, 1, 2] rfl rfl (by decide) (by decide) rfl rfl (z_runS (As := [.int y, .int (nI 0), .int (nI 9)]) (rest := []) cx hw [] rfl rfl (c_X6_in l E y (nI 0) (nI 9)  H.size) mf_X6_in wd_108 ⟨Nat.le_of_ble_eq_true rfl, Nat.le_of_ble_eq_true rfl⟩ hl (Nat.le_of_ble_eq_true rfl) dX6_mergeDies_12 ⟨Nat.le_of_ble_eq_true rfl, Nat.le_of_ble_eq_true rfl⟩) (fun r _ H locs hp hw => ?_)
    have hr_12 := hp
    have hr_12 : r = bI (decide ((nI 0) ≤ y ∧ y ≤ (nI 9))) := hr_12
    subst hr_12
    have hw : ZW E A s [(h0, ob 6 [.ref aN, .ref aH, .int (nI ed), .int (nI mc), .ref aO, .ref aR, .ref aL, .ref aG, .ref aT, .ref aE, .ref aB, .ref aV]), (aN, ia E 97 (nA Nw)), (aH, ia E 485 (nA Hs))] H locs := hw
    rw [show decide (nI 0 ≤ y ∧ y ≤ nI 9) = inR y 10 from inR_le (by decide)]
    refine z_ifb_ne hx hb 20 dX6_mergeDies_15 (by decide) (fun c_15 => ?_) (fun c_15 => ?_)
    · obtain ⟨b2, hb2, rfl⟩ := inR_get c_15 (by omega)
      refine lv_aload_n hx hb dX6_mergeDies_20 rfl (lv_at hl 0 rfl) ?_
      refine lv_iload_n hx hb dX6_mergeDies_21 rfl (lv_at hl 1 rfl) ?_
      refine lv_iload_n hx hb dX6_mergeDies_22 rfl (lv_at hl 2 rfl) ?_
      refine z_ri0 (wr := [(aH, ia E 485 (nA Hs))]) cx hw [0, 1] [2] rfl rfl (by decide) (by decide) rfl rfl (z_runV (As := [.int (nI t), .int (nI a2)]) (rest := []) cx hw rfl rfl [0, 1] rfl rfl (c_X6_specimens l E h0 aN aH aO aR aL aG aT aE aB aV ed mc Nw t a2 (by omega) (hF) (by omega) (by omega) H.size) mf_X6_specimens wd_174 ⟨Nat.le_of_ble_eq_true rfl, Nat.le_of_ble_eq_true rfl⟩ hl (Nat.le_of_ble_eq_true rfl) dX6_mergeDies_23 ⟨Nat.le_of_ble_eq_true rfl, Nat.le_of_ble_eq_true rfl⟩) (fun r _ H locs hp hw => ?_)
      have hr_23 := hp
      have hr_23 : r = nI (cnt Nw t a2 (Nw 96)) := hr_23
      subst hr_23
      have hw : ZW E A s [(aH, ia E 485 (nA Hs)), (h0, ob 6 [.ref aN, .ref aH, .int (nI ed), .int (nI mc), .ref aO, .ref aR, .ref aL, .ref aG, .ref aT, .ref aE, .ref aB, .ref aV]), (aN, ia E 97 (nA Nw))] H locs := hw
      refine lv_istore (lv' := [(4, .int (nI (cnt Nw t a2 (Nw 96)))), (0, .ref h0), (1, .int (nI t)), (2, .int (nI a2)), (3, .int (nI b2))]) hx hb dX6_mergeDies_26 hl (by decide) rfl (fun ls hl => ?_)
      refine lv_iload hx hb dX6_mergeDies_28 (lv_at hl 0 rfl) ?_
      have hc_ := cnt_le Nw t a2 (Nw 96)
      refine z_if_ne hx hb (by omega) 36 dX6_mergeDies_30 (by decide) (fun c_30 => ?_) (fun c_30 => ?_)
      · refine lv_aload_n hx hb dX6_mergeDies_36 rfl (lv_at hl 1 rfl) ?_
        refine z_rv0 (wr := []) cx hw [1, 2, 0] [] rfl rfl (by decide) (by decide) rfl rfl (z_runV (As := []) (rest := []) cx hw rfl rfl [1, 2, 0] rfl rfl (c_X6_edit l E h0 aN aH aO aR aL aG aT aE aB aV ed mc Nw Hs (by omega) H.size) mf_X6_edit wd_111 ⟨Nat.le_of_ble_eq_true rfl, Nat.le_of_ble_eq_true rfl⟩ hl (Nat.le_of_ble_eq_true rfl) dX6_mergeDies_37 ⟨Nat.le_of_ble_eq_true rfl, Nat.le_of_ble_eq_true rfl⟩) (fun _ H locs hp hw => ?_)
        have hw : ZW E A s [(h0, ob 6 [.ref aN, .ref aH, .int (nI (incN ed)), .int (nI mc), .ref aO, .ref aR, .ref aL, .ref aG, .ref aT, .ref aE, .ref aB, .ref aV]), (aN, ia E 97 (nA Nw)), (aH, ia E 485 (nA (edH Nw Hs ed)))] H locs := hw
        refine lv_iconst (v := nI 0) hx hb dX6_mergeDies_40 (by decide) ?_
        refine lv_istore (lv' := [(5, .int (nI 0)), (4, .int (nI (cnt Nw t a2 (Nw 96)))), (0, .ref h0), (1, .int (nI t)), (2, .int (nI a2)), (3, .int (nI b2))]) hx hb dX6_mergeDies_41 hl (by decide) rfl (fun ls hl => ?_)
        have loop_43 : ∀ (fuel : Nat) (k : Nat) (hk : k ≤ Nw 96) (hm : Nw 96 - k < fuel) (H : Heap) (locs : List Loc) (ls : Array Slot), ZW E A s [(h0, ob 6 [.ref aN, .ref aH, .int (nI (incN ed)), .int (nI mc), .ref aO, .ref aR, .ref aL, .ref aG, .ref aT, .ref aE, .ref aB, .ref aV]), (aN, ia E 97 (nA (rep Nw t a2 b2 k))), (aH, ia E 485 (nA (edH Nw Hs ed)))] H locs → lv_has ls 6 [(0, .ref h0), (1, .int (nI t)), (2, .int (nI a2)), (3, .int (nI b2)), (4, .int (nI (cnt Nw t a2 (Nw 96)))), (5, .int (nI k))] → W p l e rmX6_mergeDies s m args below meth c H locs 0 0 Q (F0 m 43 ls []) := by
          intro fuel
          induction fuel with
          | zero => intro k hk hm; exact absurd hm (Nat.not_lt_zero _)
          | succ fuel ih_43 =>
            intro k hk hm H locs ls hw hl
            refine lv_iload hx hb dX6_mergeDies_43 (lv_at hl 5 rfl) ?_
            refine lv_aload_n hx hb dX6_mergeDies_45 rfl (lv_at hl 0 rfl) ?_
            refine z_get cx hw 0 0 rfl rfl inlX6 (by decide) wd_70 rfl dX6_mergeDies_46 ?_
            refine lv_bipush (v := nI 96) hx hb dX6_mergeDies_49 (by decide) ?_
            refine z_aldN cx hw 1 rfl (96) rfl (by omega) (by decide) dX6_mergeDies_51 ?_
            rw [rep_96 (by omega)]
            refine z_icmp_ge hx hb (by omega) (by omega) 102 dX6_mergeDies_52 (by decide) (fun c_52 => ?_) (fun c_52 => ?_)
            · refine lv_iload_n hx hb dX6_mergeDies_102 rfl (lv_at hl 2 rfl) ?_
              refine lv_iload_n hx hb dX6_mergeDies_103 rfl (lv_at hl 3 rfl) ?_
              refine z_icmp_ne hx hb (by omega) (by omega) 111 dX6_mergeDies_104 (by decide) (fun c_104 => ?_) (fun c_104 => ?_)
              · refine lv_iload hx hb dX6_mergeDies_111 (lv_at hl 4 rfl) ?_
                have ho_ : okM (nI t) (nI a2) (nI b2) = true := by rw [okM, c_5, c_15]; rfl
                have e1_ := cl_nI ht (by decide)
                have e2_ := cl_nI ha (by decide)
                have e3_ := cl_nI hb2 (by decide)
                have ek_ : k = Nw 96 := by omega
                have hs_ : mrgM (Nw, Hs, ed) (nI t) (nI a2) (nI b2) = savM (Nw, Hs, ed) (rep Nw t a2 b2 (Nw 96)) := by rw [mrgM, if_pos ⟨ho_, by rw [e1_, e2_]; exact c_30⟩, e1_, e2_, e3_]
                have e_r113_0 : (incN ed) = ((mrgM (Nw, Hs, ed) (nI t) (nI a2) (nI b2)).2.2) := by rw [hs_]; rfl
                have e_r113_1 : (rep Nw t a2 b2 k) = ((mrgM (Nw, Hs, ed) (nI t) (nI a2) (nI b2)).1) := by rw [hs_, ek_]; rfl
                have e_r113_2 : (edH Nw Hs ed) = ((mrgM (Nw, Hs, ed) (nI t) (nI a2) (nI b2)).2.1) := by rw [hs_]; rfl
                exact ret (nI (cnt Nw t a2 (Nw 96))) () 113 ls H locs dX6_mergeDies_113 (by simp only [mrgR, ho_, if_true]; rw [e1_, e2_, if_neg (by omega), if_neg (by rw [e3_]; exact c_104)]) ((hw).cast (zc (congrArg (fun z => ((h0, ob 6 [.ref aN, .ref aH, .int (nI z), .int (nI mc), .ref aO, .ref aR, .ref aL, .ref aG, .ref aT, .ref aE, .ref aB, .ref aV]) : Nat × va_E)) e_r113_0) (zc (congrArg (fun z => ((aN, ia E 97 (nA z)) : Nat × va_E)) e_r113_1) (zc (congrArg (fun z => ((aH, ia E 485 (nA z)) : Nat × va_E)) e_r113_2) rfl))))
              · refine lv_iconst (v := nI 0) hx hb dX6_mergeDies_107 (by decide) ?_
                refine lv_goto (tgt := 113) hx hb dX6_mergeDies_108 (by decide) ?_
                have ho_ : okM (nI t) (nI a2) (nI b2) = true := by rw [okM, c_5, c_15]; rfl
                have e1_ := cl_nI ht (by decide)
                have e2_ := cl_nI ha (by decide)
                have e3_ := cl_nI hb2 (by decide)
                have ek_ : k = Nw 96 := by omega
                have hs_ : mrgM (Nw, Hs, ed) (nI t) (nI a2) (nI b2) = savM (Nw, Hs, ed) (rep Nw t a2 b2 (Nw 96)) := by rw [mrgM, if_pos ⟨ho_, by rw [e1_, e2_]; exact c_30⟩, e1_, e2_, e3_]
                have e_r113_0 : (incN ed) = ((mrgM (Nw, Hs, ed) (nI t) (nI a2) (nI b2)).2.2) := by rw [hs_]; rfl
                have e_r113_1 : (rep Nw t a2 b2 k) = ((mrgM (Nw, Hs, ed) (nI t) (nI a2) (nI b2)).1) := by rw [hs_, ek_]; rfl
                have e_r113_2 : (edH Nw Hs ed) = ((mrgM (Nw, Hs, ed) (nI t) (nI a2) (nI b2)).2.1) := by rw [hs_]; rfl
                exact ret (nI 0) () 113 ls H locs dX6_mergeDies_113 (by simp only [mrgR, ho_, if_true]; rw [e1_, e2_, if_neg (by omega), if_pos (by rw [e3_]; exact c_104)]) ((hw).cast (zc (congrArg (fun z => ((h0, ob 6 [.ref aN, .ref aH, .int (nI z), .int (nI mc), .ref aO, .ref aR, .ref aL, .ref aG, .ref aT, .ref aE, .ref aB, .ref aV]) : Nat × va_E)) e_r113_0) (zc (congrArg (fun z => ((aN, ia E 97 (nA z)) : Nat × va_E)) e_r113_1) (zc (congrArg (fun z => ((aH, ia E 485 (nA z)) : Nat × va_E)) e_r113_2) rfl))))
            · refine lv_aload_n hx hb dX6_mergeDies_55 rfl (lv_at hl 0 rfl) ?_
              refine z_get cx hw 0 0 rfl rfl inlX6 (by decide) wd_70 rfl dX6_mergeDies_56 ?_
              refine lv_iconst (v := nI 4) hx hb dX6_mergeDies_59 (by decide) ?_
              refine lv_iload hx hb dX6_mergeDies_60 (lv_at hl 5 rfl) ?_
              refine z_imul hx hb (4 * k) rfl dX6_mergeDies_62 ?_
              refine lv_iload_n hx hb dX6_mergeDies_63 rfl (lv_at hl 1 rfl) ?_
              refine z_iadd hx hb ((4 * k) + t) rfl dX6_mergeDies_64 ?_
              refine lv_aload_n hx hb dX6_mergeDies_65 rfl (lv_at hl 0 rfl) ?_
              refine z_get cx hw 0 0 rfl rfl inlX6 (by decide) wd_70 rfl dX6_mergeDies_66 ?_
              refine lv_iconst (v := nI 4) hx hb dX6_mergeDies_69 (by decide) ?_
              refine lv_iload hx hb dX6_mergeDies_70 (lv_at hl 5 rfl) ?_
              refine z_imul hx hb (4 * k) rfl dX6_mergeDies_72 ?_
              refine lv_iload_n hx hb dX6_mergeDies_73 rfl (lv_at hl 1 rfl) ?_
              refine z_iadd hx hb ((4 * k) + t) rfl dX6_mergeDies_74 ?_
              refine z_aldN cx hw 1 rfl ((4 * k) + t) rfl (by omega) (by decide) dX6_mergeDies_75 ?_
              rw [rep_at Nw t a2 b2 k]
              have hz_ := hF (4 * k + t) (by omega)
              refine lv_iload_n hx hb dX6_mergeDies_76 rfl (lv_at hl 2 rfl) ?_
              refine z_icmp_ne hx hb (by omega) (by omega) 84 dX6_mergeDies_77 (by decide) (fun c_77 => ?_) (fun c_77 => ?_)
              · refine lv_aload_n hx hb dX6_mergeDies_84 rfl (lv_at hl 0 rfl) ?_
                refine z_get cx hw 0 0 rfl rfl inlX6 (by decide) wd_70 rfl dX6_mergeDies_85 ?_
                refine lv_iconst (v := nI 4) hx hb dX6_mergeDies_88 (by decide) ?_
                refine lv_iload hx hb dX6_mergeDies_89 (lv_at hl 5 rfl) ?_
                refine z_imul hx hb (4 * k) rfl dX6_mergeDies_91 ?_
                refine lv_iload_n hx hb dX6_mergeDies_92 rfl (lv_at hl 1 rfl) ?_
                refine z_iadd hx hb ((4 * k) + t) rfl dX6_mergeDies_93 ?_
                refine z_aldN cx hw 1 rfl ((4 * k) + t) rfl (by omega) (by decide) dX6_mergeDies_94 ?_
                rw [rep_at Nw t a2 b2 k]
                have hz_ := hF (4 * k + t) (by omega)
                refine z_astN cx hw 1 rfl ((4 * k) + t) rfl (by omega) (by decide) dX6_mergeDies_95 (fun H locs hw => ?_)
                have hw : ZW E A s [(h0, ob 6 [.ref aN, .ref aH, .int (nI (incN ed)), .int (nI mc), .ref aO, .ref aR, .ref aL, .ref aG, .ref aT, .ref aE, .ref aB, .ref aV]), (aN, ia E 97 (nA (updN (rep Nw t a2 b2 k) ((4 * k) + t) (Nw (4 * k + t))))), (aH, ia E 485 (nA (edH Nw Hs ed)))] H locs := hw
                refine lv_iinc (v := nI (k + 1)) (lv' := [(5, .int (nI (k + 1))), (0, .ref h0), (1, .int (nI t)), (2, .int (nI a2)), (3, .int (nI b2)), (4, .int (nI (cnt Nw t a2 (Nw 96))))]) hx hb dX6_mergeDies_96 hl (k := 5) rfl (nI_1 _) (by decide) rfl (fun ls hl => ?_)
                refine lv_goto (tgt := 43) hx hb dX6_mergeDies_99 (by decide) ?_
                have e_b43_0 : (updN (rep Nw t a2 b2 k) ((4 * k) + t) (Nw (4 * k + t))) = (rep Nw t a2 b2 (k + 1)) := by rw [rep_self (by omega) c_77]
                exact ih_43 (k + 1) (by omega) (by omega) _ _ ls ((hw).cast (zc rfl (zc (congrArg (fun z => ((aN, ia E 97 (nA z)) : Nat × va_E)) e_b43_0) rfl))) (lv_add (lv_add (lv_add (lv_add (lv_add (lv_add (lv_nil hl) (lv_at hl 0 rfl)) (lv_at hl 5 rfl)) (lv_at hl 4 rfl)) (lv_at hl 3 rfl)) (lv_at hl 2 rfl)) (lv_at hl 1 rfl))
              · refine lv_iload_n hx hb dX6_mergeDies_80 rfl (lv_at hl 3 rfl) ?_
                refine lv_goto (tgt := 95) hx hb dX6_mergeDies_81 (by decide) ?_
                refine z_astN cx hw 1 rfl ((4 * k) + t) rfl (by omega) (by decide) dX6_mergeDies_95 (fun H locs hw => ?_)
                have hw : ZW E A s [(h0, ob 6 [.ref aN, .ref aH, .int (nI (incN ed)), .int (nI mc), .ref aO, .ref aR, .ref aL, .ref aG, .ref aT, .ref aE, .ref aB, .ref aV]), (aN, ia E 97 (nA (updN (rep Nw t a2 b2 k) ((4 * k) + t) b2))), (aH, ia E 485 (nA (edH Nw Hs ed)))] H locs := hw
                refine lv_iinc (v := nI (k + 1)) (lv' := [(5, .int (nI (k + 1))), (0, .ref h0), (1, .int (nI t)), (2, .int (nI a2)), (3, .int (nI b2)), (4, .int (nI (cnt Nw t a2 (Nw 96))))]) hx hb dX6_mergeDies_96 hl (k := 5) rfl (nI_1 _) (by decide) rfl (fun ls hl => ?_)
                refine lv_goto (tgt := 43) hx hb dX6_mergeDies_99 (by decide) ?_
                have e_b43_0 : (updN (rep Nw t a2 b2 k) ((4 * k) + t) b2) = (rep Nw t a2 b2 (k + 1)) := by rw [rep_eq Nw a2 b2 k (by omega) c_77]
                exact ih_43 (k + 1) (by omega) (by omega) _ _ ls ((hw).cast (zc rfl (zc (congrArg (fun z => ((aN, ia E 97 (nA z)) : Nat × va_E)) e_b43_0) rfl))) (lv_add (lv_add (lv_add (lv_add (lv_add (lv_add (lv_nil hl) (lv_at hl 0 rfl)) (lv_at hl 5 rfl)) (lv_at hl 4 rfl)) (lv_at hl 3 rfl)) (lv_at hl 2 rfl)) (lv_at hl 1 rfl))
        have e_i43_0 : Nw = (rep Nw t a2 b2 0) := by rw [rep_zero]
        exact loop_43 _ 0 (by omega) (Nat.lt_succ_self _) _ _ ls ((hw).cast (zc rfl (zc (congrArg (fun z => ((aN, ia E 97 (nA z)) : Nat × va_E)) e_i43_0) rfl))) (lv_add (lv_add (lv_add (lv_add (lv_add (lv_add (lv_nil hl) (lv_at hl 0 rfl)) (lv_at hl 1 rfl)) (lv_at hl 5 rfl)) (lv_at hl 4 rfl)) (lv_at hl 3 rfl)) (lv_at hl 2 rfl))
      · refine lv_bipush (v := (-3)) hx hb dX6_mergeDies_33 (by decide) ?_
        have ho_ : okM (nI t) (nI a2) (nI b2) = true := by rw [okM, c_5, c_15]; rfl
        have e1_ := cl_nI ht (by decide)
        have e2_ := cl_nI ha (by decide)
        have e3_ := cl_nI hb2 (by decide)
        have hs_ : mrgM (Nw, Hs, ed) (nI t) (nI a2) (nI b2) = (Nw, Hs, ed) := if_neg (fun z => by have z2 := z.2; rw [e1_, e2_] at z2; dsimp only at z2; omega)
        have e_r35_0 : ed = ((mrgM (Nw, Hs, ed) (nI t) (nI a2) (nI b2)).2.2) := by rw [hs_]
        have e_r35_1 : Nw = ((mrgM (Nw, Hs, ed) (nI t) (nI a2) (nI b2)).1) := by rw [hs_]
        have e_r35_2 : Hs = ((mrgM (Nw, Hs, ed) (nI t) (nI a2) (nI b2)).2.1) := by rw [hs_]
        exact ret ((-3)) () 35 ls H locs dX6_mergeDies_35 (by simp only [mrgR, ho_, if_true]; rw [e1_, e2_, if_pos c_30]) ((hw.perm [1, 2, 0] rfl (by decide)).cast (zc (congrArg (fun z => ((h0, ob 6 [.ref aN, .ref aH, .int (nI z), .int (nI mc), .ref aO, .ref aR, .ref aL, .ref aG, .ref aT, .ref aE, .ref aB, .ref aV]) : Nat × va_E)) e_r35_0) (zc (congrArg (fun z => ((aN, ia E 97 (nA z)) : Nat × va_E)) e_r35_1) (zc (congrArg (fun z => ((aH, ia E 485 (nA z)) : Nat × va_E)) e_r35_2) rfl))))
    · refine lv_iconst (v := (-1)) hx hb dX6_mergeDies_18 (by decide) ?_
      have ho_ : okM (nI t) (nI a2) (y) = false := by simp [okM, c_15]
      have hs_ : mrgM (Nw, Hs, ed) (nI t) (nI a2) (y) = (Nw, Hs, ed) := if_neg (fun z => by rw [ho_] at z; exact absurd z.1 (by decide))
      have e_r19_0 : ed = ((mrgM (Nw, Hs, ed) (nI t) (nI a2) y).2.2) := by rw [hs_]
      have e_r19_1 : Nw = ((mrgM (Nw, Hs, ed) (nI t) (nI a2) y).1) := by rw [hs_]
      have e_r19_2 : Hs = ((mrgM (Nw, Hs, ed) (nI t) (nI a2) y).2.1) := by rw [hs_]
      exact ret ((-1)) () 19 ls H locs dX6_mergeDies_19 (by simp only [mrgR, ho_]; rfl) ((hw).cast (zc (congrArg (fun z => ((h0, ob 6 [.ref aN, .ref aH, .int (nI z), .int (nI mc), .ref aO, .ref aR, .ref aL, .ref aG, .ref aT, .ref aE, .ref aB, .ref aV]) : Nat × va_E)) e_r19_0) (zc (congrArg (fun z => ((aN, ia E 97 (nA z)) : Nat × va_E)) e_r19_1) (zc (congrArg (fun z => ((aH, ia E 485 (nA z)) : Nat × va_E)) e_r19_2) rfl))))

def rmX6_specimenCount : Room := { frames := 0, cells := 0, slots := 0, locals := 0 }
set_option maxHeartbeats 4000000 in
set_option maxRecDepth 100000 in
theorem c_X6_specimenCount (l : Launch) (E : ZE) (h0 aN aH aO aR aL aG aT aE aB aV : Nat) (ed mc : Nat) (Nw : Nat → Nat)  : ZMi l yX6_specimenCount cX6_specimenCount 1 (some .int) rmX6_specimenCount E [.ref h0] [(h0, ob 6 [.ref aN, .ref aH, .int (nI ed), .int (nI mc), .ref aO, .ref aR, .ref aL, .ref aG, .ref aT, .ref aE, .ref aB, .ref aV]), (aN, ia E 97 (nA Nw))] (S := Unit) (fun r _ => r = nI (Nw 96)) (fun _ => [(h0, ob 6 [.ref aN, .ref aH, .int (nI ed), .int (nI mc), .ref aO, .ref aR, .ref aL, .ref aG, .ref aT, .ref aE, .ref aB, .ref aV]), (aN, ia E 97 (nA Nw))]) := by
  refine z_mi (by decide) (Nat.le_of_ble_eq_true rfl) ?_
  intro p e s m args below meth c A Q ls cx hin hw hl ret
  obtain ⟨hx, hb, hml, hown, hts, hK, hN, hA, hlk⟩ := id cx
  have hl : lv_has ls 1 [(0, .ref h0)] := hl
  refine lv_aload_n hx hb dX6_specimenCount_0 rfl (lv_at hl 0 rfl) ?_
  refine z_get cx hw 0 0 rfl rfl inlX6 (by decide) wd_70 rfl dX6_specimenCount_1 ?_
  refine lv_bipush (v := nI 96) hx hb dX6_specimenCount_4 (by decide) ?_
  refine z_aldN cx hw 1 rfl (96) rfl (by omega) (by decide) dX6_specimenCount_6 ?_
  exact ret (nI (Nw 96)) () 7 ls s.heap [] dX6_specimenCount_7 (rfl) (hw)

def rmX6_dieOf : Room := { frames := 2, cells := 0, slots := 0, locals := 43 }
set_option maxHeartbeats 4000000 in
set_option maxRecDepth 100000 in
theorem c_X6_dieOf (l : Launch) (E : ZE) (h0 aN aH aO aR aL aG aT aE aB aV : Nat) (ed mc : Nat) (Nw : Nat → Nat) (x sd : Int32) (hn : Nw 96 ≤ 24) : ZMi l yX6_dieOf cX6_dieOf 3 (some .int) rmX6_dieOf E [.ref h0, .int x, .int sd] [(h0, ob 6 [.ref aN, .ref aH, .int (nI ed), .int (nI mc), .ref aO, .ref aR, .ref aL, .ref aG, .ref aT, .ref aE, .ref aB, .ref aV]), (aN, ia E 97 (nA Nw))] (S := Unit) (fun r _ => r = dofR Nw (Nw 96) x sd) (fun _ => [(h0, ob 6 [.ref aN, .ref aH, .int (nI ed), .int (nI mc), .ref aO, .ref aR, .ref aL, .ref aG, .ref aT, .ref aE, .ref aB, .ref aV]), (aN, ia E 97 (nA Nw))]) := by
  refine z_mi (by decide) (Nat.le_of_ble_eq_true rfl) ?_
  intro p e s m args below meth c A Q ls cx hin hw hl ret
  obtain ⟨hx, hb, hml, hown, hts, hK, hN, hA, hlk⟩ := id cx
  have hl : lv_has ls 3 [(0, .ref h0), (1, .int x), (2, .int sd)] := hl
  refine lv_aload_n hx hb dX6_dieOf_0 rfl (lv_at hl 0 rfl) ?_
  refine lv_iload_n hx hb dX6_dieOf_1 rfl (lv_at hl 1 rfl) ?_
  refine z_ri0 (wr := []) cx hw [0, 1] [] rfl rfl (by decide) (by decide) rfl rfl (z_runV (As := [.int x]) (rest := []) cx hw rfl rfl [0, 1] rfl rfl (c_X6_isSpecimen l E h0 aN aH aO aR aL aG aT aE aB aV ed mc Nw x (by omega) s.heap.size) mf_X6_isSpecimen wd_131 ⟨Nat.le_of_ble_eq_true rfl, Nat.le_of_ble_eq_true rfl⟩ hl (Nat.le_of_ble_eq_true rfl) dX6_dieOf_2 ⟨Nat.le_of_ble_eq_true rfl, Nat.le_of_ble_eq_true rfl⟩) (fun r _ H locs hp hw => ?_)
  have hr_2 := hp
  have hr_2 : r = bI (inR x (Nw 96)) := hr_2
  subst hr_2
  have hw : ZW E A s [(h0, ob 6 [.ref aN, .ref aH, .int (nI ed), .int (nI mc), .ref aO, .ref aR, .ref aL, .ref aG, .ref aT, .ref aE, .ref aB, .ref aV]), (aN, ia E 97 (nA Nw))] H locs := hw
  refine z_ifb_eq hx hb 28 dX6_dieOf_5 (by decide) (fun c_5 => ?_) (fun c_5 => ?_)
  · refine lv_iconst (v := (-1)) hx hb dX6_dieOf_28 (by decide) ?_
    exact ret ((-1)) () 29 ls H locs dX6_dieOf_29 (by simp [dofR, c_5]) (hw)
  · obtain ⟨k, hk, rfl⟩ := inR_get c_5 (by omega)
    refine lv_iload_n hx hb dX6_dieOf_8 rfl (lv_at hl 2 rfl) ?_
    refine z_ri0 (wr := [(h0, ob 6 [.ref aN, .ref aH, .int (nI ed), .int (nI mc), .ref aO, .ref aR, .ref aL, .ref aG, .ref aT, .ref aE, .ref aB, .ref aV]), (aN, ia E 97 (nA Nw))]) cx hw [] [0, 1] rfl rfl (by decide) (by decide) rfl rfl (z_runS (As := [.int sd]) (rest := []) cx hw [] rfl rfl (c_X6_isSide l E sd  H.size) mf_X6_isSide wd_149 ⟨Nat.le_of_ble_eq_true rfl, Nat.le_of_ble_eq_true rfl⟩ hl (Nat.le_of_ble_eq_true rfl) dX6_dieOf_9 ⟨Nat.le_of_ble_eq_true rfl, Nat.le_of_ble_eq_true rfl⟩) (fun r _ H locs hp hw => ?_)
    have hr_9 := hp
    have hr_9 : r = bI (inR sd 2) := hr_9
    subst hr_9
    have hw : ZW E A s [(h0, ob 6 [.ref aN, .ref aH, .int (nI ed), .int (nI mc), .ref aO, .ref aR, .ref aL, .ref aG, .ref aT, .ref aE, .ref aB, .ref aV]), (aN, ia E 97 (nA Nw))] H locs := hw
    refine z_ifb_eq hx hb 28 dX6_dieOf_12 (by decide) (fun c_12 => ?_) (fun c_12 => ?_)
    · refine lv_iconst (v := (-1)) hx hb dX6_dieOf_28 (by decide) ?_
      exact ret ((-1)) () 29 ls H locs dX6_dieOf_29 (by simp [dofR, c_12]) (hw)
    · obtain ⟨t, ht, rfl⟩ := inR_get c_12 (by omega)
      refine lv_aload_n hx hb dX6_dieOf_15 rfl (lv_at hl 0 rfl) ?_
      refine z_get cx hw 0 0 rfl rfl inlX6 (by decide) wd_70 rfl dX6_dieOf_16 ?_
      refine lv_iconst (v := nI 4) hx hb dX6_dieOf_19 (by decide) ?_
      refine lv_iload_n hx hb dX6_dieOf_20 rfl (lv_at hl 1 rfl) ?_
      refine z_imul hx hb (4 * k) rfl dX6_dieOf_21 ?_
      refine lv_iload_n hx hb dX6_dieOf_22 rfl (lv_at hl 2 rfl) ?_
      refine z_iadd hx hb ((4 * k) + t) rfl dX6_dieOf_23 ?_
      refine z_aldN cx hw 1 rfl ((4 * k) + t) rfl (by omega) (by decide) dX6_dieOf_24 ?_
      refine lv_goto (tgt := 29) hx hb dX6_dieOf_25 (by decide) ?_
      exact ret (nI (Nw ((4 * k) + t))) () 29 ls H locs dX6_dieOf_29 (by simp only [dofR, c_5, c_12, Bool.and_self, if_true]; rw [cl_nI hk (by omega), cl_nI ht (by decide)]) (hw)

def rmX6_known : Room := { frames := 1, cells := 0, slots := 0, locals := 24 }
set_option maxHeartbeats 4000000 in
set_option maxRecDepth 100000 in
theorem c_X6_known (l : Launch) (E : ZE) (h0 aN aH aO aR aL aG aT aE aB aV : Nat) (ed mc : Nat) (Nw : Nat → Nat) (sd : Nat) (hn : Nw 96 ≤ 24) (hF : ∀ j, j < 96 → Nw j < 10) (hs : sd < 2) : ZMi l yX6_known cX6_known 4 (some .int) rmX6_known E [.ref h0, .int (nI sd)] [(h0, ob 6 [.ref aN, .ref aH, .int (nI ed), .int (nI mc), .ref aO, .ref aR, .ref aL, .ref aG, .ref aT, .ref aE, .ref aB, .ref aV]), (aN, ia E 97 (nA Nw))] (S := Unit) (fun r _ => r = nI (kn Nw sd (Nw 96) 10)) (fun _ => [(h0, ob 6 [.ref aN, .ref aH, .int (nI ed), .int (nI mc), .ref aO, .ref aR, .ref aL, .ref aG, .ref aT, .ref aE, .ref aB, .ref aV]), (aN, ia E 97 (nA Nw))]) := by
  refine z_mi (by decide) (Nat.le_of_ble_eq_true rfl) ?_
  intro p e s m args below meth c A Q ls cx hin hw hl ret
  obtain ⟨hx, hb, hml, hown, hts, hK, hN, hA, hlk⟩ := id cx
  have hl : lv_has ls 4 [(0, .ref h0), (1, .int (nI sd))] := hl
  refine lv_iconst (v := nI 0) hx hb dX6_known_0 (by decide) ?_
  refine lv_istore_n (lv' := [(2, .int (nI 0)), (0, .ref h0), (1, .int (nI sd))]) hx hb dX6_known_1 rfl hl (by decide) rfl (fun ls hl => ?_)
  refine lv_iconst (v := nI 0) hx hb dX6_known_2 (by decide) ?_
  refine lv_istore_n (lv' := [(3, .int (nI 0)), (2, .int (nI 0)), (0, .ref h0), (1, .int (nI sd))]) hx hb dX6_known_3 rfl hl (by decide) rfl (fun ls hl => ?_)
  have loop_4 : ∀ (fuel : Nat) (k : Nat) (hk : k ≤ 10) (hm : 10 - k < fuel) (H : Heap) (locs : List Loc) (ls : Array Slot), ZW E A s [(h0, ob 6 [.ref aN, .ref aH, .int (nI ed), .int (nI mc), .ref aO, .ref aR, .ref aL, .ref aG, .ref aT, .ref aE, .ref aB, .ref aV]), (aN, ia E 97 (nA Nw))] H locs → lv_has ls 4 [(0, .ref h0), (1, .int (nI sd)), (2, .int (nI (kn Nw sd (Nw 96) k))), (3, .int (nI k))] → W p l e rmX6_known s m args below meth c H locs 0 0 Q (F0 m 4 ls []) := by
    intro fuel
    induction fuel with
    | zero => intro k hk hm; exact absurd hm (Nat.not_lt_zero _)
    | succ fuel ih_4 =>
      intro k hk hm H locs ls hw hl
      refine lv_iload_n hx hb dX6_known_4 rfl (lv_at hl 3 rfl) ?_
      refine lv_bipush (v := nI 10) hx hb dX6_known_5 (by decide) ?_
      refine z_icmp_ge hx hb (by omega) (by decide) 33 dX6_known_7 (by decide) (fun c_7 => ?_) (fun c_7 => ?_)
      · refine lv_iload_n hx hb dX6_known_33 rfl (lv_at hl 2 rfl) ?_
        have e_ : k = 10 := by omega
        exact ret (nI (kn Nw sd (Nw 96) k)) () 34 ls H locs dX6_known_34 (congrArg nI (by rw [e_])) (hw)
      · refine lv_iload_n hx hb dX6_known_10 rfl (lv_at hl 2 rfl) ?_
        refine lv_aload_n hx hb dX6_known_11 rfl (lv_at hl 0 rfl) ?_
        refine lv_iload_n hx hb dX6_known_12 rfl (lv_at hl 1 rfl) ?_
        refine lv_iload_n hx hb dX6_known_13 rfl (lv_at hl 3 rfl) ?_
        refine z_ri0 (wr := []) cx hw [0, 1] [] rfl rfl (by decide) (by decide) rfl rfl (z_runV (As := [.int (nI sd), .int (nI k)]) (rest := [.int (nI (kn Nw sd (Nw 96) k))]) cx hw rfl rfl [0, 1] rfl rfl (c_X6_specimens l E h0 aN aH aO aR aL aG aT aE aB aV ed mc Nw sd k (by omega) (hF) (by omega) (by omega) H.size) mf_X6_specimens wd_174 ⟨Nat.le_of_ble_eq_true rfl, Nat.le_of_ble_eq_true rfl⟩ hl (Nat.le_of_ble_eq_true rfl) dX6_known_14 ⟨Nat.le_of_ble_eq_true rfl, Nat.le_of_ble_eq_true rfl⟩) (fun r _ H locs hp hw => ?_)
        have hr_14 := hp
        have hr_14 : r = nI (cnt Nw sd k (Nw 96)) := hr_14
        subst hr_14
        have hw : ZW E A s [(h0, ob 6 [.ref aN, .ref aH, .int (nI ed), .int (nI mc), .ref aO, .ref aR, .ref aL, .ref aG, .ref aT, .ref aE, .ref aB, .ref aV]), (aN, ia E 97 (nA Nw))] H locs := hw
        have h_ := cnt_le Nw sd k (Nw 96)
        refine z_if_le hx hb (by omega) 24 dX6_known_17 (by decide) (fun c_17 => ?_) (fun c_17 => ?_)
        · refine lv_iconst (v := nI 0) hx hb dX6_known_24 (by decide) ?_
          refine z_iadd hx hb (kn Nw sd (Nw 96) k) rfl dX6_known_25 ?_
          refine lv_istore_n (lv' := [(2, .int (nI (kn Nw sd (Nw 96) k))), (0, .ref h0), (1, .int (nI sd)), (3, .int (nI k))]) hx hb dX6_known_26 rfl hl (by decide) rfl (fun ls hl => ?_)
          refine lv_iinc (v := nI (k + 1)) (lv' := [(3, .int (nI (k + 1))), (2, .int (nI (kn Nw sd (Nw 96) k))), (0, .ref h0), (1, .int (nI sd))]) hx hb dX6_known_27 hl (k := 3) rfl (nI_1 _) (by decide) rfl (fun ls hl => ?_)
          refine lv_goto (tgt := 4) hx hb dX6_known_30 (by decide) ?_
          exact ih_4 (k + 1) (by omega) (by omega) _ _ ls (hw) (lv_add (lv_add (lv_add (lv_add (lv_nil hl) (lv_at hl 0 rfl)) (lv_eqv (lv_at hl 1 rfl) (zN (by simp [kn, c_17])))) (lv_at hl 3 rfl)) (lv_at hl 2 rfl))
        · refine lv_iconst (v := nI 1) hx hb dX6_known_20 (by decide) ?_
          refine lv_goto (tgt := 25) hx hb dX6_known_21 (by decide) ?_
          refine z_iadd hx hb ((kn Nw sd (Nw 96) k) + 1) rfl dX6_known_25 ?_
          refine lv_istore_n (lv' := [(2, .int (nI ((kn Nw sd (Nw 96) k) + 1))), (0, .ref h0), (1, .int (nI sd)), (3, .int (nI k))]) hx hb dX6_known_26 rfl hl (by decide) rfl (fun ls hl => ?_)
          refine lv_iinc (v := nI (k + 1)) (lv' := [(3, .int (nI (k + 1))), (2, .int (nI ((kn Nw sd (Nw 96) k) + 1))), (0, .ref h0), (1, .int (nI sd))]) hx hb dX6_known_27 hl (k := 3) rfl (nI_1 _) (by decide) rfl (fun ls hl => ?_)
          refine lv_goto (tgt := 4) hx hb dX6_known_30 (by decide) ?_
          exact ih_4 (k + 1) (by omega) (by omega) _ _ ls (hw) (lv_add (lv_add (lv_add (lv_add (lv_nil hl) (lv_at hl 0 rfl)) (lv_eqv (lv_at hl 1 rfl) (zN (by simp [kn, c_17])))) (lv_at hl 3 rfl)) (lv_at hl 2 rfl))
  exact loop_4 _ 0 (by omega) (Nat.lt_succ_self _) _ _ ls (hw) (lv_add (lv_add (lv_add (lv_add (lv_nil hl) (lv_at hl 0 rfl)) (lv_eqv (lv_at hl 1 rfl) (zN (by rfl)))) (lv_at hl 3 rfl)) (lv_at hl 2 rfl))

def rmX6_single : Room := { frames := 1, cells := 0, slots := 0, locals := 24 }
set_option maxHeartbeats 4000000 in
set_option maxRecDepth 100000 in
theorem c_X6_single (l : Launch) (E : ZE) (h0 aN aH aO aR aL aG aT aE aB aV : Nat) (ed mc : Nat) (Nw : Nat → Nat) (sd : Nat) (hn : Nw 96 ≤ 24) (hF : ∀ j, j < 96 → Nw j < 10) (hs : sd < 2) : ZMi l yX6_single cX6_single 4 (some .int) rmX6_single E [.ref h0, .int (nI sd)] [(h0, ob 6 [.ref aN, .ref aH, .int (nI ed), .int (nI mc), .ref aO, .ref aR, .ref aL, .ref aG, .ref aT, .ref aE, .ref aB, .ref aV]), (aN, ia E 97 (nA Nw))] (S := Unit) (fun r _ => r = nI (sg Nw sd (Nw 96) 10)) (fun _ => [(h0, ob 6 [.ref aN, .ref aH, .int (nI ed), .int (nI mc), .ref aO, .ref aR, .ref aL, .ref aG, .ref aT, .ref aE, .ref aB, .ref aV]), (aN, ia E 97 (nA Nw))]) := by
  refine z_mi (by decide) (Nat.le_of_ble_eq_true rfl) ?_
  intro p e s m args below meth c A Q ls cx hin hw hl ret
  obtain ⟨hx, hb, hml, hown, hts, hK, hN, hA, hlk⟩ := id cx
  have hl : lv_has ls 4 [(0, .ref h0), (1, .int (nI sd))] := hl
  refine lv_iconst (v := nI 0) hx hb dX6_single_0 (by decide) ?_
  refine lv_istore_n (lv' := [(2, .int (nI 0)), (0, .ref h0), (1, .int (nI sd))]) hx hb dX6_single_1 rfl hl (by decide) rfl (fun ls hl => ?_)
  refine lv_iconst (v := nI 0) hx hb dX6_single_2 (by decide) ?_
  refine lv_istore_n (lv' := [(3, .int (nI 0)), (2, .int (nI 0)), (0, .ref h0), (1, .int (nI sd))]) hx hb dX6_single_3 rfl hl (by decide) rfl (fun ls hl => ?_)
  have loop_4 : ∀ (fuel : Nat) (k : Nat) (hk : k ≤ 10) (hm : 10 - k < fuel) (H : Heap) (locs : List Loc) (ls : Array Slot), ZW E A s [(h0, ob 6 [.ref aN, .ref aH, .int (nI ed), .int (nI mc), .ref aO, .ref aR, .ref aL, .ref aG, .ref aT, .ref aE, .ref aB, .ref aV]), (aN, ia E 97 (nA Nw))] H locs → lv_has ls 4 [(0, .ref h0), (1, .int (nI sd)), (2, .int (nI (sg Nw sd (Nw 96) k))), (3, .int (nI k))] → W p l e rmX6_single s m args below meth c H locs 0 0 Q (F0 m 4 ls []) := by
    intro fuel
    induction fuel with
    | zero => intro k hk hm; exact absurd hm (Nat.not_lt_zero _)
    | succ fuel ih_4 =>
      intro k hk hm H locs ls hw hl
      refine lv_iload_n hx hb dX6_single_4 rfl (lv_at hl 3 rfl) ?_
      refine lv_bipush (v := nI 10) hx hb dX6_single_5 (by decide) ?_
      refine z_icmp_ge hx hb (by omega) (by decide) 34 dX6_single_7 (by decide) (fun c_7 => ?_) (fun c_7 => ?_)
      · refine lv_iload_n hx hb dX6_single_34 rfl (lv_at hl 2 rfl) ?_
        have e_ : k = 10 := by omega
        exact ret (nI (sg Nw sd (Nw 96) k)) () 35 ls H locs dX6_single_35 (congrArg nI (by rw [e_])) (hw)
      · refine lv_iload_n hx hb dX6_single_10 rfl (lv_at hl 2 rfl) ?_
        refine lv_aload_n hx hb dX6_single_11 rfl (lv_at hl 0 rfl) ?_
        refine lv_iload_n hx hb dX6_single_12 rfl (lv_at hl 1 rfl) ?_
        refine lv_iload_n hx hb dX6_single_13 rfl (lv_at hl 3 rfl) ?_
        refine z_ri0 (wr := []) cx hw [0, 1] [] rfl rfl (by decide) (by decide) rfl rfl (z_runV (As := [.int (nI sd), .int (nI k)]) (rest := [.int (nI (sg Nw sd (Nw 96) k))]) cx hw rfl rfl [0, 1] rfl rfl (c_X6_specimens l E h0 aN aH aO aR aL aG aT aE aB aV ed mc Nw sd k (by omega) (hF) (by omega) (by omega) H.size) mf_X6_specimens wd_174 ⟨Nat.le_of_ble_eq_true rfl, Nat.le_of_ble_eq_true rfl⟩ hl (Nat.le_of_ble_eq_true rfl) dX6_single_14 ⟨Nat.le_of_ble_eq_true rfl, Nat.le_of_ble_eq_true rfl⟩) (fun r _ H locs hp hw => ?_)
        have hr_14 := hp
        have hr_14 : r = nI (cnt Nw sd k (Nw 96)) := hr_14
        subst hr_14
        have hw : ZW E A s [(h0, ob 6 [.ref aN, .ref aH, .int (nI ed), .int (nI mc), .ref aO, .ref aR, .ref aL, .ref aG, .ref aT, .ref aE, .ref aB, .ref aV]), (aN, ia E 97 (nA Nw))] H locs := hw
        have h_ := cnt_le Nw sd k (Nw 96)
        refine lv_iconst (v := nI 1) hx hb dX6_single_17 (by decide) ?_
        refine z_icmp_ne hx hb (by omega) (by decide) 25 dX6_single_18 (by decide) (fun c_18 => ?_) (fun c_18 => ?_)
        · refine lv_iconst (v := nI 0) hx hb dX6_single_25 (by decide) ?_
          refine z_iadd hx hb (sg Nw sd (Nw 96) k) rfl dX6_single_26 ?_
          refine lv_istore_n (lv' := [(2, .int (nI (sg Nw sd (Nw 96) k))), (0, .ref h0), (1, .int (nI sd)), (3, .int (nI k))]) hx hb dX6_single_27 rfl hl (by decide) rfl (fun ls hl => ?_)
          refine lv_iinc (v := nI (k + 1)) (lv' := [(3, .int (nI (k + 1))), (2, .int (nI (sg Nw sd (Nw 96) k))), (0, .ref h0), (1, .int (nI sd))]) hx hb dX6_single_28 hl (k := 3) rfl (nI_1 _) (by decide) rfl (fun ls hl => ?_)
          refine lv_goto (tgt := 4) hx hb dX6_single_31 (by decide) ?_
          exact ih_4 (k + 1) (by omega) (by omega) _ _ ls (hw) (lv_add (lv_add (lv_add (lv_add (lv_nil hl) (lv_at hl 0 rfl)) (lv_eqv (lv_at hl 1 rfl) (zN (by simp [sg, c_18])))) (lv_at hl 3 rfl)) (lv_at hl 2 rfl))
        · refine lv_iconst (v := nI 1) hx hb dX6_single_21 (by decide) ?_
          refine lv_goto (tgt := 26) hx hb dX6_single_22 (by decide) ?_
          refine z_iadd hx hb ((sg Nw sd (Nw 96) k) + 1) rfl dX6_single_26 ?_
          refine lv_istore_n (lv' := [(2, .int (nI ((sg Nw sd (Nw 96) k) + 1))), (0, .ref h0), (1, .int (nI sd)), (3, .int (nI k))]) hx hb dX6_single_27 rfl hl (by decide) rfl (fun ls hl => ?_)
          refine lv_iinc (v := nI (k + 1)) (lv' := [(3, .int (nI (k + 1))), (2, .int (nI ((sg Nw sd (Nw 96) k) + 1))), (0, .ref h0), (1, .int (nI sd))]) hx hb dX6_single_28 hl (k := 3) rfl (nI_1 _) (by decide) rfl (fun ls hl => ?_)
          refine lv_goto (tgt := 4) hx hb dX6_single_31 (by decide) ?_
          exact ih_4 (k + 1) (by omega) (by omega) _ _ ls (hw) (lv_add (lv_add (lv_add (lv_add (lv_nil hl) (lv_at hl 0 rfl)) (lv_eqv (lv_at hl 1 rfl) (zN (by simp [sg, c_18])))) (lv_at hl 3 rfl)) (lv_at hl 2 rfl))
  exact loop_4 _ 0 (by omega) (Nat.lt_succ_self _) _ _ ls (hw) (lv_add (lv_add (lv_add (lv_add (lv_nil hl) (lv_at hl 0 rfl)) (lv_eqv (lv_at hl 1 rfl) (zN (by rfl)))) (lv_at hl 3 rfl)) (lv_at hl 2 rfl))

def rmX6_dieCount : Room := { frames := 2, cells := 0, slots := 0, locals := 47 }
set_option maxHeartbeats 4000000 in
set_option maxRecDepth 100000 in
theorem c_X6_dieCount (l : Launch) (E : ZE) (h0 aN aH aO aR aL aG aT aE aB aV : Nat) (ed mc : Nat) (Nw : Nat → Nat) (sd : Int32) (hn : Nw 96 ≤ 24) (hF : ∀ j, j < 96 → Nw j < 10) : ZMi l yX6_dieCount cX6_dieCount 2 (some .int) rmX6_dieCount E [.ref h0, .int sd] [(h0, ob 6 [.ref aN, .ref aH, .int (nI ed), .int (nI mc), .ref aO, .ref aR, .ref aL, .ref aG, .ref aT, .ref aE, .ref aB, .ref aV]), (aN, ia E 97 (nA Nw))] (S := Unit) (fun r _ => r = dcR Nw (Nw 96) sd) (fun _ => [(h0, ob 6 [.ref aN, .ref aH, .int (nI ed), .int (nI mc), .ref aO, .ref aR, .ref aL, .ref aG, .ref aT, .ref aE, .ref aB, .ref aV]), (aN, ia E 97 (nA Nw))]) := by
  refine z_mi (by decide) (Nat.le_of_ble_eq_true rfl) ?_
  intro p e s m args below meth c A Q ls cx hin hw hl ret
  obtain ⟨hx, hb, hml, hown, hts, hK, hN, hA, hlk⟩ := id cx
  have hl : lv_has ls 2 [(0, .ref h0), (1, .int sd)] := hl
  refine lv_iload_n hx hb dX6_dieCount_0 rfl (lv_at hl 1 rfl) ?_
  refine z_ri0 (wr := [(h0, ob 6 [.ref aN, .ref aH, .int (nI ed), .int (nI mc), .ref aO, .ref aR, .ref aL, .ref aG, .ref aT, .ref aE, .ref aB, .ref aV]), (aN, ia E 97 (nA Nw))]) cx hw [] [0, 1] rfl rfl (by decide) (by decide) rfl rfl (z_runS (As := [.int sd]) (rest := []) cx hw [] rfl rfl (c_X6_isSide l E sd  s.heap.size) mf_X6_isSide wd_149 ⟨Nat.le_of_ble_eq_true rfl, Nat.le_of_ble_eq_true rfl⟩ hl (Nat.le_of_ble_eq_true rfl) dX6_dieCount_1 ⟨Nat.le_of_ble_eq_true rfl, Nat.le_of_ble_eq_true rfl⟩) (fun r _ H locs hp hw => ?_)
  have hr_1 := hp
  have hr_1 : r = bI (inR sd 2) := hr_1
  subst hr_1
  have hw : ZW E A s [(h0, ob 6 [.ref aN, .ref aH, .int (nI ed), .int (nI mc), .ref aO, .ref aR, .ref aL, .ref aG, .ref aT, .ref aE, .ref aB, .ref aV]), (aN, ia E 97 (nA Nw))] H locs := hw
  refine z_ifb_eq hx hb 15 dX6_dieCount_4 (by decide) (fun c_4 => ?_) (fun c_4 => ?_)
  · refine lv_iconst (v := (-1)) hx hb dX6_dieCount_15 (by decide) ?_
    exact ret ((-1)) () 16 ls H locs dX6_dieCount_16 (by simp [dcR, c_4]) (hw)
  · obtain ⟨t, ht, rfl⟩ := inR_get c_4 (by omega)
    refine lv_aload_n hx hb dX6_dieCount_7 rfl (lv_at hl 0 rfl) ?_
    refine lv_iload_n hx hb dX6_dieCount_8 rfl (lv_at hl 1 rfl) ?_
    refine z_ri0 (wr := []) cx hw [0, 1] [] rfl rfl (by decide) (by decide) rfl rfl (z_runV (As := [.int (nI t)]) (rest := []) cx hw rfl rfl [0, 1] rfl rfl (c_X6_known l E h0 aN aH aO aR aL aG aT aE aB aV ed mc Nw t (by omega) (hF) (by omega) H.size) mf_X6_known wd_206 ⟨Nat.le_of_ble_eq_true rfl, Nat.le_of_ble_eq_true rfl⟩ hl (Nat.le_of_ble_eq_true rfl) dX6_dieCount_9 ⟨Nat.le_of_ble_eq_true rfl, Nat.le_of_ble_eq_true rfl⟩) (fun r _ H locs hp hw => ?_)
    have hr_9 := hp
    have hr_9 : r = nI (kn Nw t (Nw 96) 10) := hr_9
    subst hr_9
    have hw : ZW E A s [(h0, ob 6 [.ref aN, .ref aH, .int (nI ed), .int (nI mc), .ref aO, .ref aR, .ref aL, .ref aG, .ref aT, .ref aE, .ref aB, .ref aV]), (aN, ia E 97 (nA Nw))] H locs := hw
    refine lv_goto (tgt := 16) hx hb dX6_dieCount_12 (by decide) ?_
    exact ret (nI (kn Nw t (Nw 96) 10)) () 16 ls H locs dX6_dieCount_16 (by simp only [dcR, c_4, if_true]; rw [cl_nI ht (by decide)]) (hw)

def rmX6_singletons : Room := { frames := 2, cells := 0, slots := 0, locals := 47 }
set_option maxHeartbeats 4000000 in
set_option maxRecDepth 100000 in
theorem c_X6_singletons (l : Launch) (E : ZE) (h0 aN aH aO aR aL aG aT aE aB aV : Nat) (ed mc : Nat) (Nw : Nat → Nat) (sd : Int32) (hn : Nw 96 ≤ 24) (hF : ∀ j, j < 96 → Nw j < 10) : ZMi l yX6_singletons cX6_singletons 2 (some .int) rmX6_singletons E [.ref h0, .int sd] [(h0, ob 6 [.ref aN, .ref aH, .int (nI ed), .int (nI mc), .ref aO, .ref aR, .ref aL, .ref aG, .ref aT, .ref aE, .ref aB, .ref aV]), (aN, ia E 97 (nA Nw))] (S := Unit) (fun r _ => r = sgR Nw (Nw 96) sd) (fun _ => [(h0, ob 6 [.ref aN, .ref aH, .int (nI ed), .int (nI mc), .ref aO, .ref aR, .ref aL, .ref aG, .ref aT, .ref aE, .ref aB, .ref aV]), (aN, ia E 97 (nA Nw))]) := by
  refine z_mi (by decide) (Nat.le_of_ble_eq_true rfl) ?_
  intro p e s m args below meth c A Q ls cx hin hw hl ret
  obtain ⟨hx, hb, hml, hown, hts, hK, hN, hA, hlk⟩ := id cx
  have hl : lv_has ls 2 [(0, .ref h0), (1, .int sd)] := hl
  refine lv_iload_n hx hb dX6_singletons_0 rfl (lv_at hl 1 rfl) ?_
  refine z_ri0 (wr := [(h0, ob 6 [.ref aN, .ref aH, .int (nI ed), .int (nI mc), .ref aO, .ref aR, .ref aL, .ref aG, .ref aT, .ref aE, .ref aB, .ref aV]), (aN, ia E 97 (nA Nw))]) cx hw [] [0, 1] rfl rfl (by decide) (by decide) rfl rfl (z_runS (As := [.int sd]) (rest := []) cx hw [] rfl rfl (c_X6_isSide l E sd  s.heap.size) mf_X6_isSide wd_149 ⟨Nat.le_of_ble_eq_true rfl, Nat.le_of_ble_eq_true rfl⟩ hl (Nat.le_of_ble_eq_true rfl) dX6_singletons_1 ⟨Nat.le_of_ble_eq_true rfl, Nat.le_of_ble_eq_true rfl⟩) (fun r _ H locs hp hw => ?_)
  have hr_1 := hp
  have hr_1 : r = bI (inR sd 2) := hr_1
  subst hr_1
  have hw : ZW E A s [(h0, ob 6 [.ref aN, .ref aH, .int (nI ed), .int (nI mc), .ref aO, .ref aR, .ref aL, .ref aG, .ref aT, .ref aE, .ref aB, .ref aV]), (aN, ia E 97 (nA Nw))] H locs := hw
  refine z_ifb_eq hx hb 15 dX6_singletons_4 (by decide) (fun c_4 => ?_) (fun c_4 => ?_)
  · refine lv_iconst (v := (-1)) hx hb dX6_singletons_15 (by decide) ?_
    exact ret ((-1)) () 16 ls H locs dX6_singletons_16 (by simp [sgR, c_4]) (hw)
  · obtain ⟨t, ht, rfl⟩ := inR_get c_4 (by omega)
    refine lv_aload_n hx hb dX6_singletons_7 rfl (lv_at hl 0 rfl) ?_
    refine lv_iload_n hx hb dX6_singletons_8 rfl (lv_at hl 1 rfl) ?_
    refine z_ri0 (wr := []) cx hw [0, 1] [] rfl rfl (by decide) (by decide) rfl rfl (z_runV (As := [.int (nI t)]) (rest := []) cx hw rfl rfl [0, 1] rfl rfl (c_X6_single l E h0 aN aH aO aR aL aG aT aE aB aV ed mc Nw t (by omega) (hF) (by omega) H.size) mf_X6_single wd_459 ⟨Nat.le_of_ble_eq_true rfl, Nat.le_of_ble_eq_true rfl⟩ hl (Nat.le_of_ble_eq_true rfl) dX6_singletons_9 ⟨Nat.le_of_ble_eq_true rfl, Nat.le_of_ble_eq_true rfl⟩) (fun r _ H locs hp hw => ?_)
    have hr_9 := hp
    have hr_9 : r = nI (sg Nw t (Nw 96) 10) := hr_9
    subst hr_9
    have hw : ZW E A s [(h0, ob 6 [.ref aN, .ref aH, .int (nI ed), .int (nI mc), .ref aO, .ref aR, .ref aL, .ref aG, .ref aT, .ref aE, .ref aB, .ref aV]), (aN, ia E 97 (nA Nw))] H locs := hw
    refine lv_goto (tgt := 16) hx hb dX6_singletons_12 (by decide) ?_
    exact ret (nI (sg Nw t (Nw 96) 10)) () 16 ls H locs dX6_singletons_16 (by simp only [sgR, c_4, if_true]; rw [cl_nI ht (by decide)]) (hw)

def rmX6_frequency : Room := { frames := 3, cells := 0, slots := 0, locals := 63 }
set_option maxHeartbeats 4000000 in
set_option maxRecDepth 100000 in
theorem c_X6_frequency (l : Launch) (E : ZE) (h0 aN aH aO aR aL aG aT aE aB aV : Nat) (ed mc : Nat) (Nw : Nat → Nat) (sd x : Int32) (hn : Nw 96 ≤ 24) (hF : ∀ j, j < 96 → Nw j < 10) : ZMi l yX6_frequency cX6_frequency 3 (some .int) rmX6_frequency E [.ref h0, .int sd, .int x] [(h0, ob 6 [.ref aN, .ref aH, .int (nI ed), .int (nI mc), .ref aO, .ref aR, .ref aL, .ref aG, .ref aT, .ref aE, .ref aB, .ref aV]), (aN, ia E 97 (nA Nw))] (S := Unit) (fun r _ => r = frR Nw (Nw 96) sd x) (fun _ => [(h0, ob 6 [.ref aN, .ref aH, .int (nI ed), .int (nI mc), .ref aO, .ref aR, .ref aL, .ref aG, .ref aT, .ref aE, .ref aB, .ref aV]), (aN, ia E 97 (nA Nw))]) := by
  refine z_mi (by decide) (Nat.le_of_ble_eq_true rfl) ?_
  intro p e s m args below meth c A Q ls cx hin hw hl ret
  obtain ⟨hx, hb, hml, hown, hts, hK, hN, hA, hlk⟩ := id cx
  have hl : lv_has ls 3 [(0, .ref h0), (1, .int sd), (2, .int x)] := hl
  refine lv_iload_n hx hb dX6_frequency_0 rfl (lv_at hl 1 rfl) ?_
  refine lv_iload_n hx hb dX6_frequency_1 rfl (lv_at hl 2 rfl) ?_
  refine z_ri0 (wr := [(h0, ob 6 [.ref aN, .ref aH, .int (nI ed), .int (nI mc), .ref aO, .ref aR, .ref aL, .ref aG, .ref aT, .ref aE, .ref aB, .ref aV]), (aN, ia E 97 (nA Nw))]) cx hw [] [0, 1] rfl rfl (by decide) (by decide) rfl rfl (z_runS (As := [.int sd, .int x]) (rest := []) cx hw [] rfl rfl (c_X6_isDie l E sd x  s.heap.size) mf_X6_isDie wd_171 ⟨Nat.le_of_ble_eq_true rfl, Nat.le_of_ble_eq_true rfl⟩ hl (Nat.le_of_ble_eq_true rfl) dX6_frequency_2 ⟨Nat.le_of_ble_eq_true rfl, Nat.le_of_ble_eq_true rfl⟩) (fun r _ H locs hp hw => ?_)
  have hr_2 := hp
  have hr_2 : r = bI (inR sd 2 && inR x 10) := hr_2
  subst hr_2
  have hw : ZW E A s [(h0, ob 6 [.ref aN, .ref aH, .int (nI ed), .int (nI mc), .ref aO, .ref aR, .ref aL, .ref aG, .ref aT, .ref aE, .ref aB, .ref aV]), (aN, ia E 97 (nA Nw))] H locs := hw
  refine z_ifb_eq hx hb 17 dX6_frequency_5 (by decide) (fun c_5 => ?_) (fun c_5 => ?_)
  · refine lv_iconst (v := (-1)) hx hb dX6_frequency_17 (by decide) ?_
    exact ret ((-1)) () 18 ls H locs dX6_frequency_18 (by rw [frR, c_5]; rfl) (hw)
  · obtain ⟨hi1_, hi2_⟩ : inR sd 2 = true ∧ inR x 10 = true := by simpa using c_5
    obtain ⟨t, ht, rfl⟩ := inR_get hi1_ (by omega)
    obtain ⟨a2, ha, rfl⟩ := inR_get hi2_ (by omega)
    refine lv_aload_n hx hb dX6_frequency_8 rfl (lv_at hl 0 rfl) ?_
    refine lv_iload_n hx hb dX6_frequency_9 rfl (lv_at hl 1 rfl) ?_
    refine lv_iload_n hx hb dX6_frequency_10 rfl (lv_at hl 2 rfl) ?_
    refine z_ri0 (wr := []) cx hw [0, 1] [] rfl rfl (by decide) (by decide) rfl rfl (z_runV (As := [.int (nI t), .int (nI a2)]) (rest := []) cx hw rfl rfl [0, 1] rfl rfl (c_X6_specimens l E h0 aN aH aO aR aL aG aT aE aB aV ed mc Nw t a2 (by omega) (hF) (by omega) (by omega) H.size) mf_X6_specimens wd_174 ⟨Nat.le_of_ble_eq_true rfl, Nat.le_of_ble_eq_true rfl⟩ hl (Nat.le_of_ble_eq_true rfl) dX6_frequency_11 ⟨Nat.le_of_ble_eq_true rfl, Nat.le_of_ble_eq_true rfl⟩) (fun r _ H locs hp hw => ?_)
    have hr_11 := hp
    have hr_11 : r = nI (cnt Nw t a2 (Nw 96)) := hr_11
    subst hr_11
    have hw : ZW E A s [(h0, ob 6 [.ref aN, .ref aH, .int (nI ed), .int (nI mc), .ref aO, .ref aR, .ref aL, .ref aG, .ref aT, .ref aE, .ref aB, .ref aV]), (aN, ia E 97 (nA Nw))] H locs := hw
    refine lv_goto (tgt := 18) hx hb dX6_frequency_14 (by decide) ?_
    exact ret (nI (cnt Nw t a2 (Nw 96))) () 18 ls H locs dX6_frequency_18 (by rw [frR, if_pos c_5, cl_nI ht (by decide), cl_nI ha (by decide)]) (hw)

def rmX6_coverageEstimate : Room := { frames := 2, cells := 0, slots := 0, locals := 47 }
set_option maxHeartbeats 4000000 in
set_option maxRecDepth 100000 in
theorem c_X6_coverageEstimate (l : Launch) (E : ZE) (h0 aN aH aO aR aL aG aT aE aB aV : Nat) (ed mc : Nat) (Nw : Nat → Nat) (sd : Int32) (hn : Nw 96 ≤ 24) (hF : ∀ j, j < 96 → Nw j < 10) : ZMi l yX6_coverageEstimate cX6_coverageEstimate 4 (some .int) rmX6_coverageEstimate E [.ref h0, .int sd] [(h0, ob 6 [.ref aN, .ref aH, .int (nI ed), .int (nI mc), .ref aO, .ref aR, .ref aL, .ref aG, .ref aT, .ref aE, .ref aB, .ref aV]), (aN, ia E 97 (nA Nw))] (S := Unit) (fun r _ => r = cvR Nw (Nw 96) sd) (fun _ => [(h0, ob 6 [.ref aN, .ref aH, .int (nI ed), .int (nI mc), .ref aO, .ref aR, .ref aL, .ref aG, .ref aT, .ref aE, .ref aB, .ref aV]), (aN, ia E 97 (nA Nw))]) := by
  refine z_mi (by decide) (Nat.le_of_ble_eq_true rfl) ?_
  intro p e s m args below meth c A Q ls cx hin hw hl ret
  obtain ⟨hx, hb, hml, hown, hts, hK, hN, hA, hlk⟩ := id cx
  have hl : lv_has ls 4 [(0, .ref h0), (1, .int sd)] := hl
  refine lv_iload_n hx hb dX6_coverageEstimate_0 rfl (lv_at hl 1 rfl) ?_
  refine z_ri0 (wr := [(h0, ob 6 [.ref aN, .ref aH, .int (nI ed), .int (nI mc), .ref aO, .ref aR, .ref aL, .ref aG, .ref aT, .ref aE, .ref aB, .ref aV]), (aN, ia E 97 (nA Nw))]) cx hw [] [0, 1] rfl rfl (by decide) (by decide) rfl rfl (z_runS (As := [.int sd]) (rest := []) cx hw [] rfl rfl (c_X6_isSide l E sd  s.heap.size) mf_X6_isSide wd_149 ⟨Nat.le_of_ble_eq_true rfl, Nat.le_of_ble_eq_true rfl⟩ hl (Nat.le_of_ble_eq_true rfl) dX6_coverageEstimate_1 ⟨Nat.le_of_ble_eq_true rfl, Nat.le_of_ble_eq_true rfl⟩) (fun r _ H locs hp hw => ?_)
  have hr_1 := hp
  have hr_1 : r = bI (inR sd 2) := hr_1
  subst hr_1
  have hw : ZW E A s [(h0, ob 6 [.ref aN, .ref aH, .int (nI ed), .int (nI mc), .ref aO, .ref aR, .ref aL, .ref aG, .ref aT, .ref aE, .ref aB, .ref aV]), (aN, ia E 97 (nA Nw))] H locs := hw
  refine z_ifb_ne hx hb 9 dX6_coverageEstimate_4 (by decide) (fun c_4 => ?_) (fun c_4 => ?_)
  · obtain ⟨t, ht, rfl⟩ := inR_get c_4 (by omega)
    refine lv_aload_n hx hb dX6_coverageEstimate_9 rfl (lv_at hl 0 rfl) ?_
    refine z_get cx hw 0 0 rfl rfl inlX6 (by decide) wd_70 rfl dX6_coverageEstimate_10 ?_
    refine lv_bipush (v := nI 96) hx hb dX6_coverageEstimate_13 (by decide) ?_
    refine z_aldN cx hw 1 rfl (96) rfl (by omega) (by decide) dX6_coverageEstimate_15 ?_
    refine lv_istore_n (lv' := [(2, .int (nI (Nw 96))), (0, .ref h0), (1, .int (nI t))]) hx hb dX6_coverageEstimate_16 rfl hl (by decide) rfl (fun ls hl => ?_)
    refine lv_aload_n hx hb dX6_coverageEstimate_17 rfl (lv_at hl 1 rfl) ?_
    refine lv_iload_n hx hb dX6_coverageEstimate_18 rfl (lv_at hl 2 rfl) ?_
    refine z_ri0 (wr := []) cx hw [0, 1] [] rfl rfl (by decide) (by decide) rfl rfl (z_runV (As := [.int (nI t)]) (rest := []) cx hw rfl rfl [0, 1] rfl rfl (c_X6_single l E h0 aN aH aO aR aL aG aT aE aB aV ed mc Nw t (by omega) (hF) (by omega) H.size) mf_X6_single wd_459 ⟨Nat.le_of_ble_eq_true rfl, Nat.le_of_ble_eq_true rfl⟩ hl (Nat.le_of_ble_eq_true rfl) dX6_coverageEstimate_19 ⟨Nat.le_of_ble_eq_true rfl, Nat.le_of_ble_eq_true rfl⟩) (fun r _ H locs hp hw => ?_)
    have hr_19 := hp
    have hr_19 : r = nI (sg Nw t (Nw 96) 10) := hr_19
    subst hr_19
    have hw : ZW E A s [(h0, ob 6 [.ref aN, .ref aH, .int (nI ed), .int (nI mc), .ref aO, .ref aR, .ref aL, .ref aG, .ref aT, .ref aE, .ref aB, .ref aV]), (aN, ia E 97 (nA Nw))] H locs := hw
    refine lv_istore_n (lv' := [(3, .int (nI (sg Nw t (Nw 96) 10))), (2, .int (nI (Nw 96))), (0, .ref h0), (1, .int (nI t))]) hx hb dX6_coverageEstimate_22 rfl hl (by decide) rfl (fun ls hl => ?_)
    have hg_ := sg_m hF ht hn
    refine lv_iload_n hx hb dX6_coverageEstimate_23 rfl (lv_at hl 0 rfl) ?_
    refine lv_iload_n hx hb dX6_coverageEstimate_24 rfl (lv_at hl 1 rfl) ?_
    refine z_icmp_ne hx hb (by omega) (by omega) 33 dX6_coverageEstimate_25 (by decide) (fun c_25 => ?_) (fun c_25 => ?_)
    · refine lv_sipush (v := nI 1000) hx hb dX6_coverageEstimate_33 (by decide) ?_
      refine lv_aload_n hx hb dX6_coverageEstimate_36 rfl (lv_at hl 2 rfl) ?_
      refine lv_iload_n hx hb dX6_coverageEstimate_37 rfl (lv_at hl 3 rfl) ?_
      refine z_ri0 (wr := []) cx hw [0, 1] [] rfl rfl (by decide) (by decide) rfl rfl (z_runV (As := [.int (nI t)]) (rest := [.int (nI 1000)]) cx hw rfl rfl [0, 1] rfl rfl (c_X6_known l E h0 aN aH aO aR aL aG aT aE aB aV ed mc Nw t (by omega) (hF) (by omega) H.size) mf_X6_known wd_206 ⟨Nat.le_of_ble_eq_true rfl, Nat.le_of_ble_eq_true rfl⟩ hl (Nat.le_of_ble_eq_true rfl) dX6_coverageEstimate_38 ⟨Nat.le_of_ble_eq_true rfl, Nat.le_of_ble_eq_true rfl⟩) (fun r _ H locs hp hw => ?_)
      have hr_38 := hp
      have hr_38 : r = nI (kn Nw t (Nw 96) 10) := hr_38
      subst hr_38
      have hw : ZW E A s [(h0, ob 6 [.ref aN, .ref aH, .int (nI ed), .int (nI mc), .ref aO, .ref aR, .ref aL, .ref aG, .ref aT, .ref aE, .ref aB, .ref aV]), (aN, ia E 97 (nA Nw))] H locs := hw
      refine z_imul hx hb (1000 * (kn Nw t (Nw 96) 10)) rfl dX6_coverageEstimate_41 ?_
      refine lv_iload_n hx hb dX6_coverageEstimate_42 rfl (lv_at hl 1 rfl) ?_
      refine z_imul hx hb ((1000 * (kn Nw t (Nw 96) 10)) * (Nw 96)) rfl dX6_coverageEstimate_43 ?_
      refine lv_iload_n hx hb dX6_coverageEstimate_44 rfl (lv_at hl 1 rfl) ?_
      refine lv_iload_n hx hb dX6_coverageEstimate_45 rfl (lv_at hl 0 rfl) ?_
      refine z_isub hx hb ((Nw 96) - (sg Nw t (Nw 96) 10)) (by omega) rfl dX6_coverageEstimate_46 ?_
      have hm_ : 1000 * kn Nw t (Nw 96) 10 * Nw 96 ≤ 1000 * 10 * 24 := Nat.mul_le_mul (Nat.mul_le_mul (Nat.le_refl _) (kn_le Nw t (Nw 96) 10)) hn
      refine z_idiv hx hb (((1000 * (kn Nw t (Nw 96) 10)) * (Nw 96)) / ((Nw 96) - (sg Nw t (Nw 96) 10))) (by omega) (by omega) (by omega) rfl dX6_coverageEstimate_47 ?_
      exact ret (nI (((1000 * (kn Nw t (Nw 96) 10)) * (Nw 96)) / ((Nw 96) - (sg Nw t (Nw 96) 10)))) () 48 ls H locs dX6_coverageEstimate_48 (by simp only [cvR, c_4, if_true]; rw [cl_nI ht (by decide), if_neg (by omega), Nat.mul_right_comm]) (hw)
    · refine lv_bipush (v := (-3)) hx hb dX6_coverageEstimate_28 (by decide) ?_
      refine lv_goto (tgt := 48) hx hb dX6_coverageEstimate_30 (by decide) ?_
      exact ret ((-3)) () 48 ls H locs dX6_coverageEstimate_48 (by simp only [cvR, c_4, if_true]; rw [cl_nI ht (by decide), if_pos (by omega)]) (hw)
  · refine lv_iconst (v := (-1)) hx hb dX6_coverageEstimate_7 (by decide) ?_
    exact ret ((-1)) () 8 ls H locs dX6_coverageEstimate_8 (by simp [cvR, c_4]) (hw)

def rmX6_frequencyEstimate : Room := { frames := 2, cells := 0, slots := 0, locals := 47 }
set_option maxHeartbeats 4000000 in
set_option maxRecDepth 100000 in
theorem c_X6_frequencyEstimate (l : Launch) (E : ZE) (h0 aN aH aO aR aL aG aT aE aB aV : Nat) (ed mc : Nat) (Nw : Nat → Nat) (sd : Int32) (hn : Nw 96 ≤ 24) (hF : ∀ j, j < 96 → Nw j < 10) : ZMi l yX6_frequencyEstimate cX6_frequencyEstimate 5 (some .int) rmX6_frequencyEstimate E [.ref h0, .int sd] [(h0, ob 6 [.ref aN, .ref aH, .int (nI ed), .int (nI mc), .ref aO, .ref aR, .ref aL, .ref aG, .ref aT, .ref aE, .ref aB, .ref aV]), (aN, ia E 97 (nA Nw))] (S := Unit) (fun r _ => r = feR Nw (Nw 96) sd) (fun _ => [(h0, ob 6 [.ref aN, .ref aH, .int (nI ed), .int (nI mc), .ref aO, .ref aR, .ref aL, .ref aG, .ref aT, .ref aE, .ref aB, .ref aV]), (aN, ia E 97 (nA Nw))]) := by
  refine z_mi (by decide) (Nat.le_of_ble_eq_true rfl) ?_
  intro p e s m args below meth c A Q ls cx hin hw hl ret
  obtain ⟨hx, hb, hml, hown, hts, hK, hN, hA, hlk⟩ := id cx
  have hl : lv_has ls 5 [(0, .ref h0), (1, .int sd)] := hl
  refine lv_iload_n hx hb dX6_frequencyEstimate_0 rfl (lv_at hl 1 rfl) ?_
  refine z_ri0 (wr := [(h0, ob 6 [.ref aN, .ref aH, .int (nI ed), .int (nI mc), .ref aO, .ref aR, .ref aL, .ref aG, .ref aT, .ref aE, .ref aB, .ref aV]), (aN, ia E 97 (nA Nw))]) cx hw [] [0, 1] rfl rfl (by decide) (by decide) rfl rfl (z_runS (As := [.int sd]) (rest := []) cx hw [] rfl rfl (c_X6_isSide l E sd  s.heap.size) mf_X6_isSide wd_149 ⟨Nat.le_of_ble_eq_true rfl, Nat.le_of_ble_eq_true rfl⟩ hl (Nat.le_of_ble_eq_true rfl) dX6_frequencyEstimate_1 ⟨Nat.le_of_ble_eq_true rfl, Nat.le_of_ble_eq_true rfl⟩) (fun r _ H locs hp hw => ?_)
  have hr_1 := hp
  have hr_1 : r = bI (inR sd 2) := hr_1
  subst hr_1
  have hw : ZW E A s [(h0, ob 6 [.ref aN, .ref aH, .int (nI ed), .int (nI mc), .ref aO, .ref aR, .ref aL, .ref aG, .ref aT, .ref aE, .ref aB, .ref aV]), (aN, ia E 97 (nA Nw))] H locs := hw
  refine z_ifb_ne hx hb 9 dX6_frequencyEstimate_4 (by decide) (fun c_4 => ?_) (fun c_4 => ?_)
  · obtain ⟨t, ht, rfl⟩ := inR_get c_4 (by omega)
    refine lv_aload_n hx hb dX6_frequencyEstimate_9 rfl (lv_at hl 0 rfl) ?_
    refine z_get cx hw 0 0 rfl rfl inlX6 (by decide) wd_70 rfl dX6_frequencyEstimate_10 ?_
    refine lv_bipush (v := nI 96) hx hb dX6_frequencyEstimate_13 (by decide) ?_
    refine z_aldN cx hw 1 rfl (96) rfl (by omega) (by decide) dX6_frequencyEstimate_15 ?_
    refine lv_istore_n (lv' := [(2, .int (nI (Nw 96))), (0, .ref h0), (1, .int (nI t))]) hx hb dX6_frequencyEstimate_16 rfl hl (by decide) rfl (fun ls hl => ?_)
    refine lv_aload_n hx hb dX6_frequencyEstimate_17 rfl (lv_at hl 1 rfl) ?_
    refine lv_iload_n hx hb dX6_frequencyEstimate_18 rfl (lv_at hl 2 rfl) ?_
    refine z_ri0 (wr := []) cx hw [0, 1] [] rfl rfl (by decide) (by decide) rfl rfl (z_runV (As := [.int (nI t)]) (rest := []) cx hw rfl rfl [0, 1] rfl rfl (c_X6_known l E h0 aN aH aO aR aL aG aT aE aB aV ed mc Nw t (by omega) (hF) (by omega) H.size) mf_X6_known wd_206 ⟨Nat.le_of_ble_eq_true rfl, Nat.le_of_ble_eq_true rfl⟩ hl (Nat.le_of_ble_eq_true rfl) dX6_frequencyEstimate_19 ⟨Nat.le_of_ble_eq_true rfl, Nat.le_of_ble_eq_true rfl⟩) (fun r _ H locs hp hw => ?_)
    have hr_19 := hp
    have hr_19 : r = nI (kn Nw t (Nw 96) 10) := hr_19
    subst hr_19
    have hw : ZW E A s [(h0, ob 6 [.ref aN, .ref aH, .int (nI ed), .int (nI mc), .ref aO, .ref aR, .ref aL, .ref aG, .ref aT, .ref aE, .ref aB, .ref aV]), (aN, ia E 97 (nA Nw))] H locs := hw
    refine lv_istore_n (lv' := [(3, .int (nI (kn Nw t (Nw 96) 10))), (2, .int (nI (Nw 96))), (0, .ref h0), (1, .int (nI t))]) hx hb dX6_frequencyEstimate_22 rfl hl (by decide) rfl (fun ls hl => ?_)
    have hk_ := kn_m hF ht hn
    refine lv_iload_n hx hb dX6_frequencyEstimate_23 rfl (lv_at hl 1 rfl) ?_
    refine lv_iconst (v := nI 2) hx hb dX6_frequencyEstimate_24 (by decide) ?_
    refine z_icmp_lt hx hb (by omega) (by decide) 33 dX6_frequencyEstimate_25 (by decide) (fun c_25 => ?_) (fun c_25 => ?_)
    · refine lv_bipush (v := (-3)) hx hb dX6_frequencyEstimate_33 (by decide) ?_
      exact ret ((-3)) () 35 ls H locs dX6_frequencyEstimate_35 (by simp only [feR, c_4, if_true]; rw [cl_nI ht (by decide), if_pos (by omega)]) (hw)
    · refine lv_iload_n hx hb dX6_frequencyEstimate_28 rfl (lv_at hl 1 rfl) ?_
      refine lv_iload_n hx hb dX6_frequencyEstimate_29 rfl (lv_at hl 0 rfl) ?_
      refine z_icmp_ne hx hb (by omega) (by omega) 36 dX6_frequencyEstimate_30 (by decide) (fun c_30 => ?_) (fun c_30 => ?_)
      · refine lv_iload_n hx hb dX6_frequencyEstimate_36 rfl (lv_at hl 1 rfl) ?_
        refine lv_iconst (v := nI 2) hx hb dX6_frequencyEstimate_37 (by decide) ?_
        refine lv_iload_n hx hb dX6_frequencyEstimate_38 rfl (lv_at hl 0 rfl) ?_
        refine z_imul hx hb (2 * (kn Nw t (Nw 96) 10)) rfl dX6_frequencyEstimate_39 ?_
        refine z_icmp_ge hx hb (by omega) (by omega) 57 dX6_frequencyEstimate_40 (by decide) (fun c_40 => ?_) (fun c_40 => ?_)
        · refine lv_iload_n hx hb dX6_frequencyEstimate_57 rfl (lv_at hl 1 rfl) ?_
          refine lv_iconst (v := nI 3) hx hb dX6_frequencyEstimate_58 (by decide) ?_
          refine lv_iload_n hx hb dX6_frequencyEstimate_59 rfl (lv_at hl 0 rfl) ?_
          refine z_imul hx hb (3 * (kn Nw t (Nw 96) 10)) rfl dX6_frequencyEstimate_60 ?_
          refine z_icmp_ge hx hb (by omega) (by omega) 78 dX6_frequencyEstimate_61 (by decide) (fun c_61 => ?_) (fun c_61 => ?_)
          · refine lv_sipush (v := nI 1016) hx hb dX6_frequencyEstimate_78 (by decide) ?_
            refine lv_iload_n hx hb dX6_frequencyEstimate_81 rfl (lv_at hl 1 rfl) ?_
            refine z_imul hx hb (1016 * (Nw 96)) rfl dX6_frequencyEstimate_82 ?_
            refine lv_sipush (v := nI 197) hx hb dX6_frequencyEstimate_83 (by decide) ?_
            refine lv_iload_n hx hb dX6_frequencyEstimate_86 rfl (lv_at hl 0 rfl) ?_
            refine z_imul hx hb (197 * (kn Nw t (Nw 96) 10)) rfl dX6_frequencyEstimate_87 ?_
            refine z_isub hx hb ((1016 * (Nw 96)) - (197 * (kn Nw t (Nw 96) 10))) (by omega) rfl dX6_frequencyEstimate_88 ?_
            refine lv_istore (lv' := [(4, .int (nI ((1016 * (Nw 96)) - (197 * (kn Nw t (Nw 96) 10))))), (3, .int (nI (kn Nw t (Nw 96) 10))), (2, .int (nI (Nw 96))), (0, .ref h0), (1, .int (nI t))]) hx hb dX6_frequencyEstimate_89 hl (by decide) rfl (fun ls hl => ?_)
            refine lv_ldc (v := nI 1000000) hx hb hown (hts _ wd_482) dX6_frequencyEstimate_91 ?_
            refine lv_iload_n hx hb dX6_frequencyEstimate_93 rfl (lv_at hl 2 rfl) ?_
            refine z_imul hx hb (1000000 * (Nw 96)) rfl dX6_frequencyEstimate_94 ?_
            refine lv_iload_n hx hb dX6_frequencyEstimate_95 rfl (lv_at hl 1 rfl) ?_
            refine z_imul hx hb ((1000000 * (Nw 96)) * (kn Nw t (Nw 96) 10)) rfl dX6_frequencyEstimate_96 ?_
            refine lv_iload hx hb dX6_frequencyEstimate_97 (lv_at hl 0 rfl) ?_
            have hm_ : Nw 96 * kn Nw t (Nw 96) 10 ≤ 24 * 10 := Nat.mul_le_mul hn (kn_le Nw t (Nw 96) 10)
            have hm2_ : 1000000 * Nw 96 * kn Nw t (Nw 96) 10 ≤ 240000000 := by rw [Nat.mul_assoc]; omega
            refine z_idiv hx hb (((1000000 * (Nw 96)) * (kn Nw t (Nw 96) 10)) / ((1016 * (Nw 96)) - (197 * (kn Nw t (Nw 96) 10)))) (by omega) (by omega) (by omega) rfl dX6_frequencyEstimate_99 ?_
            exact ret (nI (((1000000 * (Nw 96)) * (kn Nw t (Nw 96) 10)) / ((1016 * (Nw 96)) - (197 * (kn Nw t (Nw 96) 10))))) () 100 ls H locs dX6_frequencyEstimate_100 (by simp only [feR, c_4, if_true]; rw [cl_nI ht (by decide), if_neg (by omega), dvf, if_neg (by omega), if_neg (by omega)]; rw [Nat.mul_assoc 1000000, show Nw 96 * kn Nw t (Nw 96) 10 * 1000 * 1000 = 1000000 * (Nw 96 * kn Nw t (Nw 96) 10) from by omega]) (hw)
          · refine lv_sipush (v := nI 1069) hx hb dX6_frequencyEstimate_64 (by decide) ?_
            refine lv_iload_n hx hb dX6_frequencyEstimate_67 rfl (lv_at hl 1 rfl) ?_
            refine z_imul hx hb (1069 * (Nw 96)) rfl dX6_frequencyEstimate_68 ?_
            refine lv_sipush (v := nI 843) hx hb dX6_frequencyEstimate_69 (by decide) ?_
            refine lv_iload_n hx hb dX6_frequencyEstimate_72 rfl (lv_at hl 0 rfl) ?_
            refine z_imul hx hb (843 * (kn Nw t (Nw 96) 10)) rfl dX6_frequencyEstimate_73 ?_
            refine z_isub hx hb ((1069 * (Nw 96)) - (843 * (kn Nw t (Nw 96) 10))) (by omega) rfl dX6_frequencyEstimate_74 ?_
            refine lv_goto (tgt := 89) hx hb dX6_frequencyEstimate_75 (by decide) ?_
            refine lv_istore (lv' := [(4, .int (nI ((1069 * (Nw 96)) - (843 * (kn Nw t (Nw 96) 10))))), (3, .int (nI (kn Nw t (Nw 96) 10))), (2, .int (nI (Nw 96))), (0, .ref h0), (1, .int (nI t))]) hx hb dX6_frequencyEstimate_89 hl (by decide) rfl (fun ls hl => ?_)
            refine lv_ldc (v := nI 1000000) hx hb hown (hts _ wd_482) dX6_frequencyEstimate_91 ?_
            refine lv_iload_n hx hb dX6_frequencyEstimate_93 rfl (lv_at hl 2 rfl) ?_
            refine z_imul hx hb (1000000 * (Nw 96)) rfl dX6_frequencyEstimate_94 ?_
            refine lv_iload_n hx hb dX6_frequencyEstimate_95 rfl (lv_at hl 1 rfl) ?_
            refine z_imul hx hb ((1000000 * (Nw 96)) * (kn Nw t (Nw 96) 10)) rfl dX6_frequencyEstimate_96 ?_
            refine lv_iload hx hb dX6_frequencyEstimate_97 (lv_at hl 0 rfl) ?_
            have hm_ : Nw 96 * kn Nw t (Nw 96) 10 ≤ 24 * 10 := Nat.mul_le_mul hn (kn_le Nw t (Nw 96) 10)
            have hm2_ : 1000000 * Nw 96 * kn Nw t (Nw 96) 10 ≤ 240000000 := by rw [Nat.mul_assoc]; omega
            refine z_idiv hx hb (((1000000 * (Nw 96)) * (kn Nw t (Nw 96) 10)) / ((1069 * (Nw 96)) - (843 * (kn Nw t (Nw 96) 10)))) (by omega) (by omega) (by omega) rfl dX6_frequencyEstimate_99 ?_
            exact ret (nI (((1000000 * (Nw 96)) * (kn Nw t (Nw 96) 10)) / ((1069 * (Nw 96)) - (843 * (kn Nw t (Nw 96) 10))))) () 100 ls H locs dX6_frequencyEstimate_100 (by simp only [feR, c_4, if_true]; rw [cl_nI ht (by decide), if_neg (by omega), dvf, if_neg (by omega), if_pos c_61]; rw [Nat.mul_assoc 1000000, show Nw 96 * kn Nw t (Nw 96) 10 * 1000 * 1000 = 1000000 * (Nw 96 * kn Nw t (Nw 96) 10) from by omega]) (hw)
        · refine lv_sipush (v := nI 1124) hx hb dX6_frequencyEstimate_43 (by decide) ?_
          refine lv_iload_n hx hb dX6_frequencyEstimate_46 rfl (lv_at hl 1 rfl) ?_
          refine z_imul hx hb (1124 * (Nw 96)) rfl dX6_frequencyEstimate_47 ?_
          refine lv_sipush (v := nI 1016) hx hb dX6_frequencyEstimate_48 (by decide) ?_
          refine lv_iload_n hx hb dX6_frequencyEstimate_51 rfl (lv_at hl 0 rfl) ?_
          refine z_imul hx hb (1016 * (kn Nw t (Nw 96) 10)) rfl dX6_frequencyEstimate_52 ?_
          refine z_isub hx hb ((1124 * (Nw 96)) - (1016 * (kn Nw t (Nw 96) 10))) (by omega) rfl dX6_frequencyEstimate_53 ?_
          refine lv_goto (tgt := 89) hx hb dX6_frequencyEstimate_54 (by decide) ?_
          refine lv_istore (lv' := [(4, .int (nI ((1124 * (Nw 96)) - (1016 * (kn Nw t (Nw 96) 10))))), (3, .int (nI (kn Nw t (Nw 96) 10))), (2, .int (nI (Nw 96))), (0, .ref h0), (1, .int (nI t))]) hx hb dX6_frequencyEstimate_89 hl (by decide) rfl (fun ls hl => ?_)
          refine lv_ldc (v := nI 1000000) hx hb hown (hts _ wd_482) dX6_frequencyEstimate_91 ?_
          refine lv_iload_n hx hb dX6_frequencyEstimate_93 rfl (lv_at hl 2 rfl) ?_
          refine z_imul hx hb (1000000 * (Nw 96)) rfl dX6_frequencyEstimate_94 ?_
          refine lv_iload_n hx hb dX6_frequencyEstimate_95 rfl (lv_at hl 1 rfl) ?_
          refine z_imul hx hb ((1000000 * (Nw 96)) * (kn Nw t (Nw 96) 10)) rfl dX6_frequencyEstimate_96 ?_
          refine lv_iload hx hb dX6_frequencyEstimate_97 (lv_at hl 0 rfl) ?_
          have hm_ : Nw 96 * kn Nw t (Nw 96) 10 ≤ 24 * 10 := Nat.mul_le_mul hn (kn_le Nw t (Nw 96) 10)
          have hm2_ : 1000000 * Nw 96 * kn Nw t (Nw 96) 10 ≤ 240000000 := by rw [Nat.mul_assoc]; omega
          refine z_idiv hx hb (((1000000 * (Nw 96)) * (kn Nw t (Nw 96) 10)) / ((1124 * (Nw 96)) - (1016 * (kn Nw t (Nw 96) 10)))) (by omega) (by omega) (by omega) rfl dX6_frequencyEstimate_99 ?_
          exact ret (nI (((1000000 * (Nw 96)) * (kn Nw t (Nw 96) 10)) / ((1124 * (Nw 96)) - (1016 * (kn Nw t (Nw 96) 10))))) () 100 ls H locs dX6_frequencyEstimate_100 (by simp only [feR, c_4, if_true]; rw [cl_nI ht (by decide), if_neg (by omega), dvf, if_pos c_40]; rw [Nat.mul_assoc 1000000, show Nw 96 * kn Nw t (Nw 96) 10 * 1000 * 1000 = 1000000 * (Nw 96 * kn Nw t (Nw 96) 10) from by omega]) (hw)
      · refine lv_bipush (v := (-3)) hx hb dX6_frequencyEstimate_33 (by decide) ?_
        exact ret ((-3)) () 35 ls H locs dX6_frequencyEstimate_35 (by simp only [feR, c_4, if_true]; rw [cl_nI ht (by decide), if_pos (by omega)]) (hw)
  · refine lv_iconst (v := (-1)) hx hb dX6_frequencyEstimate_7 (by decide) ?_
    exact ret ((-1)) () 8 ls H locs dX6_frequencyEstimate_8 (by simp [feR, c_4]) (hw)

