/-! ===== the answers of both, case by case ===== -/
section ANT
variable {F Nw : Nat → Nat} {n : Nat} {D0 D1 L0 L1 G0 G1 Ob Rv Lo Hi : Nat → Nat}
theorem rk_ans (h1 : ∀ j, j < 96 → F j = Nw j) (h2 : Nw 96 = n) (h3 : n ≤ 24) : rk (hasP Nw (Nw 96)) 100 = rk (hasP F n) 100 := by
  rw [h2, hasP_ext h1 h3]
theorem sam_self (h3 : n ≤ 24) (hC : Cpl F n n D0 D1 L0 L1 G0 G1) : Sam (rk (hasP F n) 100) D0 D1 (fun _ => 0) (fun _ => 0) (fun _ => 0) (fun _ => 0) D0 D1 (fun _ => 0) (fun _ => 0) := by
  refine ⟨fun k hk => ⟨rfl, rfl, rfl, rfl, rfl, rfl⟩, fun i j hi hj e0 e1 => ?_⟩
  obtain ⟨a, ha, hb, rfl⟩ := rk_surj _ hi
  obtain ⟨b, hb2, hb3, rfl⟩ := rk_surj _ hj
  have q1 := hC a ha hb
  have q2 := hC b hb2 hb3
  rw [q1.1, q2.1] at e0
  rw [q1.2.1, q2.2.1] at e1
  rw [show a = b by omega]
theorem an_cat (h1 : ∀ j, j < 96 → F j = Nw j) (h2 : Nw 96 = n) (h3 : n ≤ 24) (hC : Cpl F n n D0 D1 L0 L1 G0 G1) {x r : Int32} (hR : x < 0 ∧ r = -1 ∨ 0 ≤ x ∧ FI Nw (Nw 96) 100 Ob Rv Lo Hi ∧ r = catR x (rk (hasP Nw (Nw 96)) 100) Ob Rv) : catR x (rk (hasP F n) 100) D0 D1 = r := by
  rcases hR with ⟨q, rfl⟩ | ⟨q, hI, rfl⟩
  · rw [catR, inR_neg q, if_neg (by decide), if_pos q]
  · rw [rk_ans h1 h2 h3]
    have := rk_hasP F n 100
    exact cat_ans (sam_of h1 h2 h3 hC hI) (by omega)
theorem an_nc (h1 : ∀ j, j < 96 → F j = Nw j) (h2 : Nw 96 = n) (h3 : n ≤ 24) (hF : ∀ j, F j < 10) (hC : Cpl F n n D0 D1 L0 L1 G0 G1) (hB : Bd6 D0 D1 L0 L1 G0 G1) (hI : FI Nw (Nw 96) 100 Ob Rv Lo Hi) : ck D0 D1 (-1) (rk (hasP F n) 100) (rk (hasP F n) 100) = nI (nc (mn Ob Rv (-1) (rk (hasP Nw (Nw 96)) 100)) (kd Nw) 20) := by
  rw [rk_ans h1 h2 h3, (gq_all (sam_of h1 h2 h3 hC hI) hB.1 hB.2.1 (-1) _ (Nat.le_refl _)).2]
  congr 1
  exact nc_kext (fun v hv => kd_ans h1 h2 h3 hF hC hv)
theorem an_cs (h1 : ∀ j, j < 96 → F j = Nw j) (h2 : Nw 96 = n) (h3 : n ≤ 24) (hF : ∀ j, F j < 10) (hB : Bd6 D0 D1 L0 L1 G0 G1) {sd x r r2 : Int32}
    (hA : (inR sd 2 && inR x 10) = false ∧ r = -1 ∨ (inR sd 2 && inR x 10) = true ∧ Cpl F n n D0 D1 L0 L1 G0 G1 ∧ r = csR D0 D1 (rk (hasP F n) 100) sd x)
    (hR : (inR sd 2 && inR x 10) = false ∧ r2 = -1 ∨ (inR sd 2 && inR x 10) = true ∧ cnt Nw (cl sd) (cl x) (Nw 96) = 0 ∧ r2 = -3 ∨ (inR sd 2 && inR x 10) = true ∧ 0 < cnt Nw (cl sd) (cl x) (Nw 96) ∧ FI Nw (Nw 96) 100 Ob Rv Lo Hi ∧ r2 = nI (cqN (mn Ob Rv (-1) (rk (hasP Nw (Nw 96)) 100)) (mn Ob Rv (-1) (rk (hasP Nw (Nw 96)) 100) (10 * cl sd + cl x)) 20)) : r = r2 := by
  rcases hA with ⟨q, rfl⟩ | ⟨q, hC, rfl⟩
  · rcases hR with ⟨-, rfl⟩ | ⟨z, -⟩ | ⟨z, -⟩
    · rfl
    · rw [q] at z; exact absurd z (by decide)
    · rw [q] at z; exact absurd z (by decide)
  · have c1 := inR_cl (Bool.and_eq_true_iff.mp q).1 (by decide)
    have c2 := inR_cl (Bool.and_eq_true_iff.mp q).2 (by decide)
    have hkd : kd Nw (10 * cl sd + cl x) = decide (0 < cnt Nw (cl sd) (cl x) (Nw 96)) := by
      unfold kd
      rw [show (10 * cl sd + cl x) / 10 = cl sd by omega, show (10 * cl sd + cl x) % 10 = cl x by omega]
    have hkv := kd_ans h1 h2 h3 hF hC (v := 10 * cl sd + cl x) (by omega)
    rw [hkd] at hkv
    rw [csR, if_pos q]
    rcases hR with ⟨z, -⟩ | ⟨-, z, rfl⟩ | ⟨-, z, hI, rfl⟩
    · rw [q] at z; exact absurd z (by decide)
    · have g := (gq_all (sam_self h3 hC) hB.1 hB.2.1 (-1) _ (Nat.le_refl _)).1
      have u := (g.2.1 (10 * cl sd + cl x) (by omega) (by rw [hkv, z]; decide)).1
      rw [if_pos (by rw [dar, if_pos u])]
    · have g := (gq_all (sam_of h1 h2 h3 hC hI) hB.1 hB.2.1 (-1) _ (Nat.le_refl _)).1
      have hk : kv D0 D1 (rk (hasP F n) 100) (10 * cl sd + cl x) = true := by rw [hkv]; exact decide_eq_true z
      have u := (g.1 (10 * cl sd + cl x) (by omega) hk).1
      have e : dar (cn D0 D1 (-1) (rk (hasP F n) 100) (rk (hasP F n) 100)) (10 * cl sd + cl x) = cqN (mn Ob Rv (-1) (rk (hasP F n) 100)) (mn Ob Rv (-1) (rk (hasP F n) 100) (10 * cl sd + cl x)) 20 := by
        rw [dar, if_neg u, cq_ans g (by omega) hk 20 (Nat.le_refl _)]
      have w := cqN_pos (g := mn Ob Rv (-1) (rk (hasP F n) 100)) (v := 10 * cl sd + cl x) (n := 20) (by omega)
      rw [e, if_neg (by omega), rk_ans h1 h2 h3]
theorem i_sub (a b c : Int32) : a - (b + c) = a - b - c := by
  rw [Int32.sub_eq_add_neg, Int32.sub_eq_add_neg, Int32.sub_eq_add_neg, Int32.neg_add, ← Int32.sub_eq_add_neg, ← Int32.sub_eq_add_neg, Int32.sub_eq_add_neg, Int32.sub_eq_add_neg]
  rw [Int32.sub_eq_add_neg a b, Int32.add_assoc]
theorem an_cr (h1 : ∀ j, j < 96 → F j = Nw j) (h2 : Nw 96 = n) (h3 : n ≤ 24) (hF : ∀ j, F j < 10) (hC : Cpl F n n D0 D1 L0 L1 G0 G1) (hB : Bd6 D0 D1 L0 L1 G0 G1) (hI : FI Nw (Nw 96) 100 Ob Rv Lo Hi) : nI (rk (hasP F n) 100) - nI (rk (kv D0 D1 (rk (hasP F n) 100)) 20) + ck D0 D1 (-1) (rk (hasP F n) 100) (rk (hasP F n) 100) = nI (rk (hasP Nw (Nw 96)) 100) - nI (kn Nw 0 (Nw 96) 10) - nI (kn Nw 1 (Nw 96) 10) + nI (nc (mn Ob Rv (-1) (rk (hasP Nw (Nw 96)) 100)) (kd Nw) 20) := by
  rw [an_nc h1 h2 h3 hF hC hB hI, rk_ext (c := kd Nw) (fun v hv => kd_ans h1 h2 h3 hF hC hv), rk_kd, ← nI_add, i_sub, rk_ans h1 h2 h3]
theorem an_bc (h1 : ∀ j, j < 96 → F j = Nw j) (h2 : Nw 96 = n) (h3 : n ≤ 24) (hF : ∀ j, F j < 10) (hC : Cpl F n n D0 D1 L0 L1 G0 G1) (hB : Bd6 D0 D1 L0 L1 G0 G1) (hI : FI Nw (Nw 96) 100 Ob Rv Lo Hi) (c0 : Bd Ob) (c1 : Bd Rv) : bc D0 D1 (rk (hasP F n) 100) (rk (hasP F n) 100) = bcM Ob Rv (kd Nw) (rk (hasP Nw (Nw 96)) 100) (rk (hasP Nw (Nw 96)) 100) := by
  have := rk_hasP F n 100
  rw [rk_ans h1 h2 h3, bc_ans (sam_of h1 h2 h3 hC hI) (by omega) hB.1 hB.2.1 c0 c1 _ (Nat.le_refl _)]
  exact bcM_kext (fun v hv => kd_ans h1 h2 h3 hF hC hv)
theorem an_ib (h1 : ∀ j, j < 96 → F j = Nw j) (h2 : Nw 96 = n) (h3 : n ≤ 24) (hF : ∀ j, F j < 10) (hC : Cpl F n n D0 D1 L0 L1 G0 G1) (hB : Bd6 D0 D1 L0 L1 G0 G1) (c0 : Bd Ob) (c1 : Bd Rv) {x r : Int32}
    (hR : x < 0 ∧ r = -1 ∨ 0 ≤ x ∧ FI Nw (Nw 96) 100 Ob Rv Lo Hi ∧ r = (if inR x (rk (hasP Nw (Nw 96)) 100) = true then bI (bM Ob Rv (kd Nw) (rk (hasP Nw (Nw 96)) 100) (cl x)) else if x < 0 then (-1) else (-3))) : ibR x (rk (hasP F n) 100) D0 D1 = r := by
  rcases hR with ⟨q, rfl⟩ | ⟨q, hI, rfl⟩
  · rw [ibR, inR_neg q, if_neg (by decide), if_pos q]
  · rw [rk_ans h1 h2 h3, ibR]
    have l := rk_hasP F n 100
    by_cases z : inR x (rk (hasP F n) 100) = true
    · rw [if_pos z, if_pos z]
      have e := fa_ans (sam_of h1 h2 h3 hC hI) (by omega) hB.1 hB.2.1 c0 c1 (inR_cl z (by omega))
      rw [e]
      congr 1
      unfold bM
      rw [nc_kext (g := mn Ob Rv (-1) (rk (hasP F n) 100)) (fun v hv => kd_ans h1 h2 h3 hF hC hv), nc_kext (g := mn Ob Rv (nI (cl x)) (rk (hasP F n) 100)) (fun v hv => kd_ans h1 h2 h3 hF hC hv)]
    · rw [if_neg z, if_neg z]
theorem an_cmp (h1 : ∀ j, j < 96 → F j = Nw j) (h2 : Nw 96 = n) (h3 : n ≤ 24) (hC : Cpl F n n D0 D1 L0 L1 G0 G1) (hI : FI Nw (Nw 96) 100 Ob Rv Lo Hi) (x y : Int32) : cmpR x y (rk (hasP F n) 100) (erl D0 D1 L0 L1 G0 G1) = cmpR x y (rk (hasP Nw (Nw 96)) 100) (erM Ob Rv Lo Hi) := by
  have := rk_hasP F n 100
  rw [rk_ans h1 h2 h3]
  exact cmp_ans (sam_of h1 h2 h3 hC hI) (by omega) x y
variable {OR Od Ge X1 X2 : Nat → Nat} {Pl : Nat → Bool}
theorem an_con (h1 : ∀ j, j < 96 → F j = Nw j) (h2 : Nw 96 = n) (h3 : n ≤ 24) (hC : Cpl F n n D0 D1 L0 L1 G0 G1) (hI : FI Nw (Nw 96) 100 Ob Rv Lo Hi) : (arS (erl D0 D1 L0 L1 G0 G1) (rk (hasP F n) 100) OR (rk (hasP F n) 100)).isSome = (plS (erM Ob Rv Lo Hi) (rk (hasP Nw (Nw 96)) 100) (clrB Pl (rk (hasP Nw (Nw 96)) 100)) Od (clrN Ge (rk (hasP Nw (Nw 96)) 100)) (rk (hasP Nw (Nw 96)) 100)).isSome := by
  have := rk_hasP F n 100
  rw [rk_ans h1 h2 h3]
  exact con_ans (sam_of h1 h2 h3 hC hI) (by omega)
theorem ord_neg {x r r2 : Int32} {M M2 : Nat} {P P2 : Prop} (e : M2 = M) (hA : inR x M = false ∧ r = (if x < 0 then (-1) else (-3)) ∨ inR x M = true ∧ P) (hR : x < 0 ∧ r2 = -1 ∨ 0 ≤ x ∧ inR x M2 = false ∧ r2 = -3 ∨ 0 ≤ x ∧ inR x M2 = true ∧ P2) (hp : inR x M = true → P → P2 → r = r2) : r = r2 := by
  subst e
  rcases hA with ⟨q, rfl⟩ | ⟨q, p1⟩
  · rcases hR with ⟨z, rfl⟩ | ⟨z, -, rfl⟩ | ⟨z, z2, -⟩
    · rw [if_pos z]
    · rw [if_neg (Int32.not_lt.mpr z)]
    · rw [q] at z2; exact absurd z2 (by decide)
  · rcases hR with ⟨z, rfl⟩ | ⟨z, z2, rfl⟩ | ⟨z, z2, p2⟩
    · rw [inR_neg z] at q; exact absurd q (by decide)
    · rw [q] at z2; exact absurd z2 (by decide)
    · exact hp q p1 p2
theorem an_ord (h1 : ∀ j, j < 96 → F j = Nw j) (h2 : Nw 96 = n) (h3 : n ≤ 24) {x r r2 : Int32}
    (hA : inR x (rk (hasP F n) 100) = false ∧ r = (if x < 0 then (-1) else (-3)) ∨ inR x (rk (hasP F n) 100) = true ∧ Cpl F n n D0 D1 L0 L1 G0 G1 ∧ (∀ t, arS (erl D0 D1 L0 L1 G0 G1) (rk (hasP F n) 100) OR (rk (hasP F n) 100) = some t → X1 = t.2.1) ∧ r = (if (arS (erl D0 D1 L0 L1 G0 G1) (rk (hasP F n) 100) OR (rk (hasP F n) 100)).isSome = true then nI (X1 (cl x)) else (-4)))
    (hR : x < 0 ∧ r2 = -1 ∨ 0 ≤ x ∧ inR x (rk (hasP Nw (Nw 96)) 100) = false ∧ r2 = -3 ∨ 0 ≤ x ∧ inR x (rk (hasP Nw (Nw 96)) 100) = true ∧ FI Nw (Nw 96) 100 Ob Rv Lo Hi ∧ (∀ t, plS (erM Ob Rv Lo Hi) (rk (hasP Nw (Nw 96)) 100) (clrB Pl (rk (hasP Nw (Nw 96)) 100)) Od (clrN Ge (rk (hasP Nw (Nw 96)) 100)) (rk (hasP Nw (Nw 96)) 100) = some t → X2 = t.2.1) ∧ r2 = (if (plS (erM Ob Rv Lo Hi) (rk (hasP Nw (Nw 96)) 100) (clrB Pl (rk (hasP Nw (Nw 96)) 100)) Od (clrN Ge (rk (hasP Nw (Nw 96)) 100)) (rk (hasP Nw (Nw 96)) 100)).isSome = true then nI (X2 (cl x)) else (-4))) : r = r2 := by
  have l := rk_hasP F n 100
  refine ord_neg (rk_ans h1 h2 h3) hA hR ?_
  rintro q ⟨hC, hX1, rfl⟩ ⟨hI, hX2, rfl⟩
  rw [rk_ans h1 h2 h3] at hX2 ⊢
  rcases ord_both (OR := OR) (Od := Od) (Ge := Ge) (Pl := Pl) (sam_of h1 h2 h3 hC hI) (by omega) with ⟨q1, q2⟩ | ⟨t, u, q1, q2, q3, q4⟩
  · rw [q1, q2]; rfl
  · rw [hX1 t q1, hX2 u q2, q1, q2, q3 _ (inR_cl q (by omega))]; rfl
theorem an_gen (h1 : ∀ j, j < 96 → F j = Nw j) (h2 : Nw 96 = n) (h3 : n ≤ 24) {x r r2 : Int32}
    (hA : inR x (rk (hasP F n) 100) = false ∧ r = (if x < 0 then (-1) else (-3)) ∨ inR x (rk (hasP F n) 100) = true ∧ Cpl F n n D0 D1 L0 L1 G0 G1 ∧ (∀ t, arS (erl D0 D1 L0 L1 G0 G1) (rk (hasP F n) 100) OR (rk (hasP F n) 100) = some t → X1 = t.2.2) ∧ r = (if (arS (erl D0 D1 L0 L1 G0 G1) (rk (hasP F n) 100) OR (rk (hasP F n) 100)).isSome = true then nI (X1 (cl x)) else (-4)))
    (hR : x < 0 ∧ r2 = -1 ∨ 0 ≤ x ∧ inR x (rk (hasP Nw (Nw 96)) 100) = false ∧ r2 = -3 ∨ 0 ≤ x ∧ inR x (rk (hasP Nw (Nw 96)) 100) = true ∧ FI Nw (Nw 96) 100 Ob Rv Lo Hi ∧ (∀ t, plS (erM Ob Rv Lo Hi) (rk (hasP Nw (Nw 96)) 100) (clrB Pl (rk (hasP Nw (Nw 96)) 100)) Od (clrN Ge (rk (hasP Nw (Nw 96)) 100)) (rk (hasP Nw (Nw 96)) 100) = some t → X2 = t.2.2) ∧ r2 = (if (plS (erM Ob Rv Lo Hi) (rk (hasP Nw (Nw 96)) 100) (clrB Pl (rk (hasP Nw (Nw 96)) 100)) Od (clrN Ge (rk (hasP Nw (Nw 96)) 100)) (rk (hasP Nw (Nw 96)) 100)).isSome = true then nI (X2 (cl x)) else (-4))) : r = r2 := by
  have l := rk_hasP F n 100
  refine ord_neg (rk_ans h1 h2 h3) hA hR ?_
  rintro q ⟨hC, hX1, rfl⟩ ⟨hI, hX2, rfl⟩
  rw [rk_ans h1 h2 h3] at hX2 ⊢
  rcases ord_both (OR := OR) (Od := Od) (Ge := Ge) (Pl := Pl) (sam_of h1 h2 h3 hC hI) (by omega) with ⟨q1, q2⟩ | ⟨t, u, q1, q2, q3, q4⟩
  · rw [q1, q2]; rfl
  · rw [hX1 t q1, hX2 u q2, q1, q2, q4 _ (inR_cl q (by omega))]; rfl
end ANT
/-! ===== what the law's body needs besides ===== -/
theorem and31 (x : Int32) : ∃ k : Nat, k < 32 ∧ x &&& 31 = nI k := by
  refine ⟨(x.toBitVec &&& 31#32).toNat, ?_, ?_⟩
  · rw [BitVec.toNat_and]
    exact Nat.lt_of_le_of_lt Nat.and_le_right (by decide)
  · apply Int32.toBitVec_inj.mp
    show x.toBitVec &&& 31#32 = BitVec.ofNat 32 (x.toBitVec &&& 31#32).toNat
    rw [BitVec.ofNat_toNat]
    simp
section ZL
variable {p : Program} {l : Launch} {e : Env} {R : Room} {s : State} {m : MethodId} {args : Array Value} {below : List Frame} {meth : Method} {c : Code} {H : Heap} {locs : List Loc} {cells slots : Nat} {Q : State → Prop}
variable {cc : ByteArray} {pc nL : Nat} {ls : Array Slot} {rest : List Value} {own : String} {E : ZE} {A : Nat → Prop} {w : va_W} {b L : Nat} {xs : Nat → Int32}
theorem z_sld (cx : Cx p s m args meth c cc nL own E A) (hw : ZW E A s w H locs) (hX : va_X b L xs s s.heap) (hbl : b < s.heap.size) (hbA : ¬ A b) (hL : L ≤ 2560) (k : Nat) (hk : k < L) (hd : decode cc pc = .ok (.iaload, 1)) (kk : W p l e R s m args below meth c H locs cells slots Q (F0 m (pc + 1) ls (.int (xs k) :: rest))) : W p l e R s m args below meth c H locs cells slots Q (F0 m pc ls (.int (nI k) :: .ref b :: rest)) := by
  obtain ⟨hx, hb, hml, hown, hts, hK, hN, hA, hlk⟩ := cx
  refine va_sld hx hb hX hbl hbA hw.2.2 (vp_in_nI hk (by omega)) hd ?_
  rw [nI_clamp (by omega)]
  exact kk
end ZL
