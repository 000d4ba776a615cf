/-! ===== the class's numbers and the reference's ===== -/
theorem inR_cl {x : Int32} {n : Nat} (h : inR x n = true) (hn : n ≤ 100000) : cl x < n := by
  obtain ⟨k, hk, rfl⟩ := inR_get h (by omega)
  rw [cl_nI hk hn]
  exact hk
def EntR (G C Hs : Nat → Nat) (p i : Nat) : Prop := (∀ j, j < 96 → G (96 * p + j) = Hs (97 * i + j)) ∧ Hs (97 * i + 96) = C p ∧ C p ≤ 24 ∧ ∀ k sd, k < 24 → sd < 2 → G (96 * p + (4 * k + 2 + sd)) ≤ 5
def slt (sv nx i : Nat) : Nat := (nx + 5 - sv + i) % 5
def Rel (t : CS) (u : MS) : Prop := (∀ j, j < 96 → t.1 j = u.1 j) ∧ u.1 96 = t.2.1 ∧ t.2.1 ≤ 24 ∧ (∀ j, t.1 j < 10) ∧ (∀ k sd, k < 24 → sd < 2 → t.1 (4 * k + 2 + sd) ≤ 5) ∧ u.2.2 = t.2.2.2.2.1 ∧ t.2.2.2.2.1 ≤ 5 ∧ t.2.2.2.2.2 < 5 ∧ (∀ j, t.2.2.1 j < 10) ∧ ∀ i, i < t.2.2.2.2.1 → EntR t.2.2.1 t.2.2.2.1 u.2.1 (slt t.2.2.2.2.1 t.2.2.2.2.2 i) i
theorem EntR.keep {F G C Hs Hs2 : Nat → Nat} {n p i i2 nx : Nat} (h : EntR G C Hs p i) (hp : p ≠ nx) (hh : ∀ j, j < 97 → Hs2 (97 * i2 + j) = Hs (97 * i + j)) : EntR (cpyN F G 0 (96 * nx) 96) (updN C nx n) Hs2 p i2 := by
  obtain ⟨h1, h2, h3, h4⟩ := h
  have e : ∀ j, j < 96 → cpyN F G 0 (96 * nx) 96 (96 * p + j) = G (96 * p + j) := fun j hj => by
    simp only [cpyN]
    rw [if_neg (by omega)]
  refine ⟨fun j hj => ?_, ?_, ?_, fun k sd hk hs => ?_⟩
  · rw [e j hj, hh j (by omega)]; exact h1 j hj
  · rw [updN_ne _ _ hp, hh 96 (by omega)]; exact h2
  · rw [updN_ne _ _ hp]; exact h3
  · rw [e _ (by omega)]; exact h4 k sd hk hs
theorem EntR.fresh {F G C Hs2 Nw : Nat → Nat} {n i2 nx : Nat} (h1 : ∀ j, j < 96 → F j = Nw j) (h2 : Nw 96 = n) (h3 : n ≤ 24) (h4 : ∀ k sd, k < 24 → sd < 2 → F (4 * k + 2 + sd) ≤ 5) (hh : ∀ j, j < 97 → Hs2 (97 * i2 + j) = Nw j) : EntR (cpyN F G 0 (96 * nx) 96) (updN C nx n) Hs2 nx i2 := by
  have e : ∀ j, j < 96 → cpyN F G 0 (96 * nx) 96 (96 * nx + j) = F j := fun j hj => by
    simp only [cpyN]
    rw [if_pos (by omega)]
    congr 1
    omega
  refine ⟨fun j hj => ?_, ?_, ?_, fun k sd hk hs => ?_⟩
  · rw [e j hj, hh j (by omega)]; exact h1 j hj
  · rw [updN_eq, hh 96 (by omega)]; exact h2
  · rw [updN_eq]; exact h3
  · rw [e _ (by omega)]; exact h4 k sd hk hs
theorem edH_lt {Nw Hs : Nat → Nat} {ed i j : Nat} (h : ed ≤ 5) (h5 : ¬ ed = 5) (hi : i < ed) (hj : j < 97) : edH Nw Hs ed (97 * i + j) = Hs (97 * i + j) := by
  rw [edH, if_neg h5]
  simp only [cpyN]
  rw [if_neg (by omega)]
theorem edH_at {Nw Hs : Nat → Nat} {ed j : Nat} (h5 : ¬ ed = 5) (hj : j < 97) : edH Nw Hs ed (97 * ed + j) = Nw j := by
  rw [edH, if_neg h5]
  simp only [cpyN]
  rw [if_pos (by omega)]
  congr 1
  omega
theorem edH_5 {Nw Hs : Nat → Nat} {i j : Nat} (hi : i < 4) (hj : j < 97) : edH Nw Hs 5 (97 * i + j) = Hs (97 * (i + 1) + j) := by
  rw [edH, if_pos rfl]
  simp only [cpyN, shk]
  rw [if_neg (by omega), if_pos (by omega)]
  congr 1
  omega
theorem edH_54 {Nw Hs : Nat → Nat} {j : Nat} (hj : j < 97) : edH Nw Hs 5 (97 * 4 + j) = Nw j := by
  rw [edH, if_pos rfl]
  simp only [cpyN]
  rw [if_pos (by omega)]
  rw [show 0 + (97 * 4 + j - 97 * 4) = j by omega]
theorem sav_rel {t : CS} {u : MS} {F2 N2 : Nat → Nat} {n2 : Nat} (h : Rel t u) (g1 : ∀ j, j < 96 → F2 j = N2 j) (g2 : N2 96 = n2) (g3 : n2 ≤ 24) (g4 : ∀ j, F2 j < 10) (g5 : ∀ k sd, k < 24 → sd < 2 → F2 (4 * k + 2 + sd) ≤ 5) : Rel (sav t F2 n2) (savM u N2) := by
  obtain ⟨F, n, G, C, sv, nx⟩ := t
  obtain ⟨Nw, Hs, ed⟩ := u
  obtain ⟨h1, h2, h3, h4, h5, h6, h7, h8, h9, h10⟩ := h
  dsimp only at h1 h2 h3 h4 h5 h6 h7 h8 h9 h10
  subst h6
  refine ⟨g1, g2, g3, g4, g5, rfl, ?_, ?_, fun j => ?_, fun i hi => ?_⟩
  · show incN ed ≤ 5
    simp only [incN]; split <;> omega
  · show nxtN nx < 5
    simp only [nxtN]; split <;> omega
  · show cpyN F G 0 (96 * nx) 96 j < 10
    simp only [cpyN]; split
    · exact h4 _
    · exact h9 _
  · have hi : i < incN ed := hi
    show EntR (cpyN F G 0 (96 * nx) 96) (updN C nx n) (edH Nw Hs ed) (slt (incN ed) (nxtN nx) i) i
    have en : nxtN nx = (nx + 1) % 5 := by simp only [nxtN]; split <;> omega
    by_cases q : ed = 5
    · subst q
      have e5 : incN 5 = 5 := rfl
      rw [e5] at hi ⊢
      by_cases q4 : i = 4
      · subst q4
        rw [show slt 5 (nxtN nx) 4 = nx by simp only [slt]; omega]
        exact EntR.fresh h1 h2 h3 h5 (fun j hj => edH_54 hj)
      · have hk := h10 (i + 1) (by omega)
        rw [show slt 5 nx (i + 1) = slt 5 (nxtN nx) i by simp only [slt]; omega] at hk
        exact hk.keep (by simp only [slt]; omega) (fun j hj => edH_5 (by omega) hj)
    · have e5 : incN ed = ed + 1 := by simp only [incN]; rw [if_pos (by omega)]
      rw [e5] at hi ⊢
      by_cases q4 : i = ed
      · subst q4
        rw [show slt (i + 1) (nxtN nx) i = nx by simp only [slt]; omega]
        exact EntR.fresh h1 h2 h3 h5 (fun j hj => edH_at q hj)
      · have hk := h10 i (by omega)
        rw [show slt ed nx i = slt (ed + 1) (nxtN nx) i by simp only [slt]; omega] at hk
        exact hk.keep (by simp only [slt]; omega) (fun j hj => edH_lt h7 q (by omega) hj)
theorem okA_cl {x1 x2 x3 x4 : Int32} (h : okA x1 x2 x3 x4 = true) : cl x1 < 10 ∧ cl x2 < 10 ∧ cl x3 < 6 ∧ cl x4 < 6 := by
  simp only [okA, Bool.and_eq_true] at h
  exact ⟨inR_cl h.1.1.1 (by decide), inR_cl h.1.1.2 (by decide), inR_cl h.1.2 (by decide), inR_cl h.2 (by decide)⟩
theorem pushF_ext {F N : Nat → Nat} {n a b c d j : Nat} (h : F j = N j) : pushF F n a b c d j = pushF N n a b c d j := by
  simp only [pushF, updN]
  repeat' split
  all_goals first | rfl | exact h
theorem add_rel {t : CS} {u : MS} (h : Rel t u) (x1 x2 x3 x4 : Int32) : Rel (addS t x1 x2 x3 x4) (addM u x1 x2 x3 x4) := by
  obtain ⟨h1, h2, h3, h4, h5, h6⟩ := id h
  unfold addS addM
  rw [h2]
  by_cases q : okA x1 x2 x3 x4 = true ∧ t.2.1 < 24
  · rw [if_pos q, if_pos q]
    obtain ⟨c1, c2, c3, c4⟩ := okA_cl q.1
    have hq := q.2
    refine sav_rel h (fun j hj => ?_) (updN_eq _ _ _) (by omega) (fun j => ?_) (fun k sd hk hs => ?_)
    · rw [updN_ne _ _ (by omega)]
      exact pushF_ext (h1 j hj)
    · have := h4 j
      simp only [pushF, updN]
      repeat' split
      all_goals omega
    · have := h5 k sd hk hs
      simp only [pushF, updN]
      repeat' split
      all_goals omega
  · rw [if_neg q, if_neg q]
    exact h
theorem rmv_rel {t : CS} {u : MS} (h : Rel t u) (x : Int32) : Rel (rmvS t x) (rmvM u x) := by
  obtain ⟨h1, h2, h3, h4, h5, h6⟩ := id h
  unfold rmvS rmvM
  rw [h2]
  by_cases q : inR x t.2.1 = true
  · rw [if_pos q, if_pos q]
    have c1 := inR_cl q (by omega)
    refine sav_rel h (fun j hj => ?_) (updN_eq _ _ _) (by omega) (fun j => ?_) (fun k sd hk hs => ?_)
    · rw [updN_ne _ _ (by omega)]
      simp only [rmv, cpyN]
      split
      · exact h1 _ (by omega)
      · exact h1 _ hj
    · simp only [rmv, cpyN]
      split
      · exact h4 _
      · exact h4 _
    · simp only [rmv, cpyN]
      split
      · rw [show 4 * cl x + 4 + (4 * k + 2 + sd - 4 * cl x) = 4 * (k + 1) + 2 + sd by omega]
        exact h5 (k + 1) sd (by omega) hs
      · exact h5 k sd hk hs
  · rw [if_neg q, if_neg q]
    exact h
theorem okW_cl {n : Nat} {x sd w : Int32} (hn : n ≤ 24) (h : okW n x sd w = true) : cl x < n ∧ cl sd < 2 ∧ cl w < 6 := by
  simp only [okW, Bool.and_eq_true] at h
  exact ⟨inR_cl h.1.1 (by omega), inR_cl h.1.2 (by decide), inR_cl h.2 (by decide)⟩
theorem set_rel {t : CS} {u : MS} (h : Rel t u) (x sd w : Int32) : Rel (setS t x sd w) (setM u x sd w) := by
  obtain ⟨h1, h2, h3, h4, h5, h6⟩ := id h
  unfold setS setM
  rw [h2]
  by_cases q : okW t.2.1 x sd w = true
  · rw [if_pos q, if_pos q]
    obtain ⟨c1, c2, c3⟩ := okW_cl h3 q
    refine sav_rel h (fun j hj => ?_) (by rw [updN_ne _ _ (by omega)]; exact h2) h3 (fun j => ?_) (fun k s2 hk hs => ?_)
    · simp only [updN]
      split
      · rfl
      · exact h1 j hj
    · have := h4 j
      simp only [updN]
      split <;> omega
    · have := h5 k s2 hk hs
      simp only [updN]
      split <;> omega
  · rw [if_neg q, if_neg q]
    exact h
theorem okM_cl {sd a b : Int32} (h : okM sd a b = true) : cl sd < 2 ∧ cl a < 10 ∧ cl b < 10 := by
  simp only [okM, Bool.and_eq_true] at h
  exact ⟨inR_cl h.1.1 (by decide), inR_cl h.1.2 (by decide), inR_cl h.2 (by decide)⟩
theorem rep_same (F : Nat → Nat) (sd a n j : Nat) : rep F sd a a n j = F j := by
  simp only [rep]
  split
  · omega
  · rfl
theorem mrg_rel {t : CS} {u : MS} (h : Rel t u) (sd a b : Int32) : Rel (mrgS t sd a b) (mrgM u sd a b) := by
  obtain ⟨h1, h2, h3, h4, h5, h6⟩ := id h
  unfold mrgS mrgM
  rw [h2]
  by_cases o : okM sd a b = true
  · obtain ⟨c1, c2, c3⟩ := okM_cl o
    rw [← cnt_ext h1 c1 h3]
    by_cases q : okM sd a b = true ∧ 0 < cnt t.1 (cl sd) (cl a) t.2.1
    · rw [if_pos q, if_pos q]
      by_cases e : cl a = cl b
      · rw [if_pos e, ← e]
        refine sav_rel h (fun j hj => ?_) ?_ h3 h4 h5
        · rw [rep_same]; exact h1 j hj
        · rw [rep_same]; exact h2
      · rw [if_neg e]
        refine sav_rel h (fun j hj => ?_) ?_ h3 (fun j => ?_) (fun k s2 hk hs => ?_)
        · simp only [rep]
          rw [h1 j hj]
        · rw [rep_96 h3]; exact h2
        · have := h4 j
          simp only [rep]
          split <;> omega
        · have := h5 k s2 hk hs
          simp only [rep]
          rw [if_neg (by omega)]
          exact this
    · rw [if_neg q, if_neg q]
      exact h
  · rw [if_neg (fun z => o z.1), if_neg (fun z => o z.1)]
    exact h
theorem und_rel {t : CS} {u : MS} (h : Rel t u) : Rel (undS t) (undM u) := by
  obtain ⟨F, n, G, C, sv, nx⟩ := t
  obtain ⟨Nw, Hs, ed⟩ := u
  obtain ⟨h1, h2, h3, h4, h5, h6, h7, h8, h9, h10⟩ := id h
  dsimp only at h1 h2 h3 h4 h5 h6 h7 h8 h9 h10
  subst h6
  unfold undS undM
  dsimp only
  by_cases q : ed = 0
  · rw [if_pos q, if_pos q]
    exact h
  · rw [if_neg q, if_neg q]
    have ep : prvN nx = (nx + 4) % 5 := by simp only [prvN]; split <;> omega
    have hk := h10 (ed - 1) (by omega)
    rw [show slt ed nx (ed - 1) = prvN nx by simp only [slt]; omega] at hk
    obtain ⟨k1, k2, k3, k4⟩ := hk
    refine ⟨k1, k2, k3, fun j => h9 _, k4, rfl, ?_, ?_, h9, fun i hi => ?_⟩
    · show ed - 1 ≤ 5
      omega
    · show prvN nx < 5
      omega
    · have hi : i < ed - 1 := hi
      show EntR G C Hs (slt (ed - 1) (prvN nx) i) i
      rw [show slt (ed - 1) (prvN nx) i = slt ed nx i by simp only [slt]; omega]
      exact h10 i (by omega)
theorem rel_0 : Rel ((fun _ => 0), 0, (fun _ => 0), (fun _ => 0), 0, 0) ((fun _ => 0), (fun _ => 0), 0) :=
  ⟨fun _ _ => rfl, rfl, (show 0 ≤ 24 by decide), fun _ => (show 0 < 10 by decide), fun _ _ _ _ => (show 0 ≤ 5 by decide), rfl, (show 0 ≤ 5 by decide), (show 0 < 5 by decide), fun _ => (show 0 < 10 by decide), fun i hi => absurd hi (Nat.not_lt_zero _)⟩
-- the answers that come of the specimens alone
section ANS
variable {F Nw : Nat → Nat} {n : Nat}
theorem set_ans (h1 : ∀ j, j < 96 → F j = Nw j) (h2 : Nw 96 = n) (h3 : n ≤ 24) (x sd w : Int32) : setR F n x sd w = setR Nw (Nw 96) x sd w := by
  rw [h2]
  unfold setR
  by_cases q : okW n x sd w = true
  · obtain ⟨c1, c2, c3⟩ := okW_cl h3 q
    rw [if_pos q, if_pos q, h1 _ (by omega)]
  · rw [if_neg q, if_neg q]
theorem mrg_ans (h1 : ∀ j, j < 96 → F j = Nw j) (h2 : Nw 96 = n) (h3 : n ≤ 24) (sd a b : Int32) : mrgR F n sd a b = mrgR Nw (Nw 96) sd a b := by
  rw [h2]
  unfold mrgR
  by_cases q : okM sd a b = true
  · obtain ⟨c1, c2, c3⟩ := okM_cl q
    rw [cnt_ext h1 c1 h3]
  · rw [if_neg q, if_neg q]
theorem dof_ans (h1 : ∀ j, j < 96 → F j = Nw j) (h2 : Nw 96 = n) (h3 : n ≤ 24) (x sd : Int32) : dofR F n x sd = dofR Nw (Nw 96) x sd := by
  rw [h2]
  unfold dofR
  by_cases q : (inR x n && inR sd 2) = true
  · have q2 := Bool.and_eq_true_iff.mp q
    have c1 := inR_cl q2.1 (by omega)
    have c2 := inR_cl q2.2 (by decide)
    rw [if_pos q, if_pos q, h1 _ (by omega)]
  · rw [if_neg q, if_neg q]
theorem dc_ans (h1 : ∀ j, j < 96 → F j = Nw j) (h2 : Nw 96 = n) (h3 : n ≤ 24) (sd : Int32) : dcR F n sd = dcR Nw (Nw 96) sd := by
  rw [h2]
  unfold dcR
  by_cases q : inR sd 2 = true
  · rw [kn_ext h1 (inR_cl q (by decide)) h3]
  · rw [if_neg q, if_neg q]
theorem fr_ans (h1 : ∀ j, j < 96 → F j = Nw j) (h2 : Nw 96 = n) (h3 : n ≤ 24) (sd x : Int32) : frR F n sd x = frR Nw (Nw 96) sd x := by
  rw [h2]
  unfold frR
  by_cases q : (inR sd 2 && inR x 10) = true
  · rw [cnt_ext h1 (inR_cl (Bool.and_eq_true_iff.mp q).1 (by decide)) h3]
  · rw [if_neg q, if_neg q]
theorem mw_ans (h1 : ∀ j, j < 96 → F j = Nw j) (h2 : Nw 96 = n) (h3 : n ≤ 24) (sd x : Int32) : mwR F n sd x = mwR Nw (Nw 96) sd x := by
  rw [h2]
  unfold mwR
  by_cases q : (inR sd 2 && inR x 10) = true
  · have c := inR_cl (Bool.and_eq_true_iff.mp q).1 (by decide)
    rw [cnt_ext h1 c h3, wsum_ext h1 c h3]
  · rw [if_neg q, if_neg q]
theorem sg_ans (h1 : ∀ j, j < 96 → F j = Nw j) (h2 : Nw 96 = n) (h3 : n ≤ 24) (sd : Int32) : sgR F n sd = sgR Nw (Nw 96) sd := by
  rw [h2]
  unfold sgR
  by_cases q : inR sd 2 = true
  · rw [sg_ext h1 (inR_cl q (by decide)) h3]
  · rw [if_neg q, if_neg q]
theorem cv_ans (h1 : ∀ j, j < 96 → F j = Nw j) (h2 : Nw 96 = n) (h3 : n ≤ 24) (sd : Int32) : cvR F n sd = cvR Nw (Nw 96) sd := by
  rw [h2]
  unfold cvR
  by_cases q : inR sd 2 = true
  · have c := inR_cl q (by decide)
    rw [sg_ext h1 c h3, kn_ext h1 c h3]
  · rw [if_neg q, if_neg q]
theorem fe_ans (h1 : ∀ j, j < 96 → F j = Nw j) (h2 : Nw 96 = n) (h3 : n ≤ 24) (sd : Int32) : feR F n sd = feR Nw (Nw 96) sd := by
  rw [h2]
  unfold feR
  by_cases q : inR sd 2 = true
  · have c := inR_cl q (by decide)
    rw [kn_ext h1 c h3]
  · rw [if_neg q, if_neg q]
end ANS
/-! ===== the couples of both ===== -/
theorem pr_ext {F G : Nat → Nat} {k : Nat} (h : ∀ j, j < 96 → F j = G j) (hk : k < 24) : pr F k = pr G k := by
  unfold pr
  rw [h _ (by omega), h _ (by omega)]
theorem hasP_ext {F G : Nat → Nat} {n : Nat} (h : ∀ j, j < 96 → F j = G j) (hn : n ≤ 24) : hasP F n = hasP G n := by
  induction n with
  | zero => funext j; rfl
  | succ n ih =>
    funext j
    simp only [hasP]
    rw [ih (by omega), pr_ext h (by omega)]
theorem lw_ext {F G : Nat → Nat} {sd j n : Nat} (h : ∀ j, j < 96 → F j = G j) (hs : sd < 2) (hn : n ≤ 24) : lw F sd j n = lw G sd j n := by
  induction n with
  | zero => rfl
  | succ n ih =>
    simp only [lw]
    rw [ih (by omega), pr_ext h (by omega), h _ (by omega)]
theorem gw_ext {F G : Nat → Nat} {sd j n : Nat} (h : ∀ j, j < 96 → F j = G j) (hs : sd < 2) (hn : n ≤ 24) : gw F sd j n = gw G sd j n := by
  induction n with
  | zero => rfl
  | succ n ih =>
    simp only [gw]
    rw [ih (by omega), pr_ext h (by omega), h _ (by omega)]
/-- both lists of couples are the same, and no couple stands in them twice -/
def Sam (M : Nat) (D0 D1 L0 L1 G0 G1 Ob Rv Lo Hi : Nat → Nat) : Prop := (∀ k, k < M → D0 k = Ob k ∧ D1 k = Rv k ∧ L0 k = Lo k ∧ L1 k = Lo (24 + k) ∧ G0 k = Hi k ∧ G1 k = Hi (24 + k)) ∧ ∀ i j, i < M → j < M → D0 i = D0 j → D1 i = D1 j → i = j
theorem sam_of {F Nw : Nat → Nat} {n : Nat} {D0 D1 L0 L1 G0 G1 Ob Rv Lo Hi : Nat → Nat} (h1 : ∀ j, j < 96 → F j = Nw j) (h2 : Nw 96 = n) (h3 : n ≤ 24) (hC : Cpl F n n D0 D1 L0 L1 G0 G1) (hI : FI Nw (Nw 96) 100 Ob Rv Lo Hi) : Sam (rk (hasP F n) 100) D0 D1 L0 L1 G0 G1 Ob Rv Lo Hi := by
  rw [h2] at hI
  unfold FI at hI
  rw [← hasP_ext h1 h3] at hI
  refine ⟨fun k hk => ?_, fun i j hi hj e0 e1 => ?_⟩
  · obtain ⟨j, hj, hb, rfl⟩ := rk_surj _ hk
    obtain ⟨a1, a2, a3, a4, a5, a6⟩ := hC j hj hb
    obtain ⟨b1, b2, b3, b4, b5, b6⟩ := hI j hj hb
    rw [← lw_ext h1 (by decide) h3] at b3 b4
    rw [← gw_ext h1 (by decide) h3] at b5 b6
    exact ⟨a1.trans b1.symm, a2.trans b2.symm, a3.trans b3.symm, a4.trans b4.symm, a5.trans b5.symm, a6.trans b6.symm⟩
  · obtain ⟨a, ha, hb, rfl⟩ := rk_surj _ hi
    obtain ⟨b, hb2, hb3, rfl⟩ := rk_surj _ hj
    have q1 := hC a ha hb
    have q2 := hC b hb2 hb3
    rw [q1.1, q2.1] at e0
    rw [q1.2.1, q2.2.1] at e1
    rw [show a = b by omega]
theorem cat_ans {x : Int32} {M : Nat} {D0 D1 L0 L1 G0 G1 Ob Rv Lo Hi : Nat → Nat} (h : Sam M D0 D1 L0 L1 G0 G1 Ob Rv Lo Hi) (hM : M ≤ 24) : catR x M D0 D1 = catR x M Ob Rv := by
  unfold catR
  by_cases q : inR x M = true
  · have c := h.1 _ (inR_cl q (by omega))
    rw [c.1, c.2.1]
  · rw [if_neg q, if_neg q]
