set_option maxHeartbeats 4000000 in
set_option maxRecDepth 100000 in
theorem law_loop {p : Program} {l : Launch} {e : Env} {s : State} {m : MethodId} {below : List Frame} {meth : Method} {c : Code} {Q : State → Prop} {E : ZE} {A : Nat → Prop} {b L : Nat} {xs : Nat → Int32} (cx : Cx p s m #[Value.ref b] meth c cL_law 4 RL E A) (hX : va_X b L xs s s.heap) (hbl : b < s.heap.size) (hbA : ¬ A b) (hL : L ≤ 2560) (hend : ∀ (H : Heap) (locs : List Loc) (ls : Array Slot), va_S A s.heap H locs → W p l e room_1 s m #[Value.ref b] below meth c H locs 34 1775 Q (F0 m 752 ls [])) : ∀ (fuel i : Nat), i ≤ L → L + 1 ≤ i + fuel → ∀ (H : Heap) (locs : List Loc) (ls : Array Slot) (o5 hS hH hC hG hR q qc qn qp qd d0 d1 ql l0 l1 qg g0 g1 qC qo qe qw : Nat) (o6 aN aH aO aR aL aG aT aE aB aV : Nat) (F : Nat → Nat) (n : Nat) (G : Nat → Nat) (C : Nat → Nat) (sv : Nat) (nx : Nat) (P : Nat → Int32) (D0 : Nat → Nat) (D1 : Nat → Nat) (L0 : Nat → Nat) (L1 : Nat → Nat) (G0 : Nat → Nat) (G1 : Nat → Nat) (mm : Nat) (Cm : Nat → Int32) (gd : Nat) (gc : Int32) (OR : Nat → Nat) (DP : Nat → Nat) (WF : Nat → Int32) (Nw : Nat → Nat) (Hs : Nat → Nat) (ed : Nat) (mc : Nat) (Ob : Nat → Nat) (Rv : Nat → Nat) (Lo : Nat → Nat) (Hi : Nat → Nat) (Od : Nat → Nat) (Ge : Nat → Nat) (Pl : Nat → Bool) (Nt : Nat → Nat), Rel (F, n, G, C, sv, nx) (Nw, Hs, ed) → Bd6 D0 D1 L0 L1 G0 G1 → (Bd Ob ∧ Bd Rv ∧ Bd Lo ∧ Bd Hi) → ZW E A s [(o5, ob 5 [.ref hS, .ref hH, .ref hC, .ref hG, .ref hR]), (hS, ob 4 [.ref q, .int (nI n)]), (q, ia E 96 (nA F)), (hH, ob 2 [.ref qc, .ref qn, .int (nI sv), .int (nI nx)]), (qc, ia E 480 (nA G)), (qn, ia E 5 (nA C)), (hC, ob 1 [.ref qp, .ref qd, .ref ql, .ref qg, .int (nI mm)]), (qp, ia E 100 P), (qd, ra E d0 d1), (d0, ia E 24 (nA D0)), (d1, ia E 24 (nA D1)), (ql, ra E l0 l1), (l0, ia E 24 (nA L0)), (l1, ia E 24 (nA L1)), (qg, ra E g0 g1), (g0, ia E 24 (nA G0)), (g1, ia E 24 (nA G1)), (hG, ob 3 [.ref qC, .int (nI gd), .int gc]), (qC, ia E 20 Cm), (hR, ob 0 [.ref qo, .ref qe, .ref qw]), (qo, ia E 24 (nA OR)), (qe, ia E 24 (nA DP)), (qw, ia E 24 WF), (o6, ob 6 [.ref aN, .ref aH, .int (nI ed), .int (nI mc), .ref aO, .ref aR, .ref aL, .ref aG, .ref aT, .ref aE, .ref aB, .ref aV]), (aN, ia E 97 (nA Nw)), (aH, ia E 485 (nA Hs)), (aO, ia E 24 (nA Ob)), (aR, ia E 24 (nA Rv)), (aL, ia E 48 (nA Lo)), (aG, ia E 48 (nA Hi)), (aT, ia E 24 (nA Od)), (aE, ia E 24 (nA Ge)), (aB, ba E 24 (bA Pl)), (aV, ia E 20 (nA Nt))] H locs → lv_has ls 4 [(0, .ref b), (1, .ref o5), (2, .ref o6), (3, .int (nI i))] → W p l e room_1 s m #[Value.ref b] below meth c H locs 34 1775 Q (F0 m 18 ls []) := by
  obtain ⟨hx, hb, hml, hown, hts, hK, hN, hA, hlk⟩ := id cx
  intro fuel
  induction fuel with
  | zero => intro i h1 h2; exact absurd h2 (by omega)
  | succ fuel ih =>
    intro i hi hm H locs ls o5 hS hH hC hG hR q qc qn qp qd d0 d1 ql l0 l1 qg g0 g1 qC qo qe qw o6 aN aH aO aR aL aG aT aE aB aV F n G C sv nx P D0 D1 L0 L1 G0 G1 mm Cm gd gc OR DP WF Nw Hs ed mc Ob Rv Lo Hi Od Ge Pl Nt hrel hB hB4 hw hl
    refine lv_iload_n hx hb dL_law_18 rfl (lv_at hl 3 rfl) ?_
    refine lv_aload_n hx hb dL_law_19 rfl (lv_at hl 0 rfl) ?_
    refine va_slen hx hb hX hbl hbA hw.2.2 dL_law_20 ?_
    refine lv_iconst (v := nI 5) hx hb dL_law_21 (by decide) ?_
    refine lv_isub hx hb dL_law_22 ?_
    refine lv_icmp_gt (tgt := 752) hx hb dL_law_23 (by decide) (fun c_23 => hend H locs ls hw.2.2) (fun c_23 => ?_)
    have hi5 : i + 5 ≤ L := by
      have q_ : nI i ≤ nI L - nI 5 := Int32.not_lt.mp c_23
      rw [Int32.le_iff_toInt_le, pk_sub_toInt (by omega) (by omega), nI_toInt (by omega)] at q_
      omega
    have kk : ∀ (H : Heap) (locs : List Loc) (ls : Array Slot) (F : Nat → Nat) (n : Nat) (G : Nat → Nat) (C : Nat → Nat) (sv : Nat) (nx : Nat) (P : Nat → Int32) (D0 : Nat → Nat) (D1 : Nat → Nat) (L0 : Nat → Nat) (L1 : Nat → Nat) (G0 : Nat → Nat) (G1 : Nat → Nat) (mm : Nat) (Cm : Nat → Int32) (gd : Nat) (gc : Int32) (OR : Nat → Nat) (DP : Nat → Nat) (WF : Nat → Int32) (Nw : Nat → Nat) (Hs : Nat → Nat) (ed : Nat) (mc : Nat) (Ob : Nat → Nat) (Rv : Nat → Nat) (Lo : Nat → Nat) (Hi : Nat → Nat) (Od : Nat → Nat) (Ge : Nat → Nat) (Pl : Nat → Bool) (Nt : Nat → Nat), Rel (F, n, G, C, sv, nx) (Nw, Hs, ed) → Bd6 D0 D1 L0 L1 G0 G1 → (Bd Ob ∧ Bd Rv ∧ Bd Lo ∧ Bd Hi) → ZW E A s [(o5, ob 5 [.ref hS, .ref hH, .ref hC, .ref hG, .ref hR]), (hS, ob 4 [.ref q, .int (nI n)]), (q, ia E 96 (nA F)), (hH, ob 2 [.ref qc, .ref qn, .int (nI sv), .int (nI nx)]), (qc, ia E 480 (nA G)), (qn, ia E 5 (nA C)), (hC, ob 1 [.ref qp, .ref qd, .ref ql, .ref qg, .int (nI mm)]), (qp, ia E 100 P), (qd, ra E d0 d1), (d0, ia E 24 (nA D0)), (d1, ia E 24 (nA D1)), (ql, ra E l0 l1), (l0, ia E 24 (nA L0)), (l1, ia E 24 (nA L1)), (qg, ra E g0 g1), (g0, ia E 24 (nA G0)), (g1, ia E 24 (nA G1)), (hG, ob 3 [.ref qC, .int (nI gd), .int gc]), (qC, ia E 20 Cm), (hR, ob 0 [.ref qo, .ref qe, .ref qw]), (qo, ia E 24 (nA OR)), (qe, ia E 24 (nA DP)), (qw, ia E 24 WF), (o6, ob 6 [.ref aN, .ref aH, .int (nI ed), .int (nI mc), .ref aO, .ref aR, .ref aL, .ref aG, .ref aT, .ref aE, .ref aB, .ref aV]), (aN, ia E 97 (nA Nw)), (aH, ia E 485 (nA Hs)), (aO, ia E 24 (nA Ob)), (aR, ia E 24 (nA Rv)), (aL, ia E 48 (nA Lo)), (aG, ia E 48 (nA Hi)), (aT, ia E 24 (nA Od)), (aE, ia E 24 (nA Ge)), (aB, ba E 24 (bA Pl)), (aV, ia E 20 (nA Nt))] H locs → lv_has ls 4 [(0, .ref b), (1, .ref o5), (2, .ref o6), (3, .int (nI i))] → W p l e room_1 s m #[Value.ref b] below meth c H locs 34 1775 Q (F0 m 746 ls []) := by
      intro H locs ls F n G C sv nx P D0 D1 L0 L1 G0 G1 mm Cm gd gc OR DP WF Nw Hs ed mc Ob Rv Lo Hi Od Ge Pl Nt hrel hB hB4 hw hl
      refine lv_iinc (v := nI (i + 5)) (lv' := [(3, .int (nI (i + 5))), (0, .ref b), (1, .ref o5), (2, .ref o6)]) hx hb dL_law_746 hl (k := 3) rfl (nI_add _ _) (by decide) rfl (fun ls hl => ?_)
      refine lv_goto (tgt := 18) hx hb dL_law_749 (by decide) ?_
      exact ih (i + 5) (by omega) (by omega) H locs ls o5 hS hH hC hG hR q qc qn qp qd d0 d1 ql l0 l1 qg g0 g1 qC qo qe qw o6 aN aH aO aR aL aG aT aE aB aV F n G C sv nx P D0 D1 L0 L1 G0 G1 mm Cm gd gc OR DP WF Nw Hs ed mc Ob Rv Lo Hi Od Ge Pl Nt hrel hB hB4 (hw) (lv_add (lv_add (lv_add (lv_add (lv_nil hl) (lv_at hl 0 rfl)) (lv_at hl 3 rfl)) (lv_at hl 2 rfl)) (lv_at hl 1 rfl))
    refine lv_aload_n hx hb dL_law_26 rfl (lv_at hl 0 rfl) ?_
    refine lv_iload_n hx hb dL_law_27 rfl (lv_at hl 3 rfl) ?_
    refine z_sld cx hw hX hbl hbA hL i (by omega) dL_law_28 ?_
    refine lv_bipush (v := nI 31) hx hb dL_law_29 (by decide) ?_
    refine lv_iand hx hb dL_law_31 ?_
    obtain ⟨k, hk, ek⟩ := and31 (xs i)
    rw [show xs i &&& nI 31 = nI k from ek]
    rcases (show k = 0 ∨ k = 1 ∨ k = 2 ∨ k = 3 ∨ k = 4 ∨ k = 5 ∨ k = 6 ∨ k = 7 ∨ k = 8 ∨ k = 9 ∨ k = 10 ∨ k = 11 ∨ k = 12 ∨ k = 13 ∨ k = 14 ∨ k = 15 ∨ k = 16 ∨ k = 17 ∨ k = 18 ∨ k = 19 ∨ k = 20 ∨ k = 21 ∨ k = 22 ∨ k = 23 ∨ 24 ≤ k by omega) with rfl | rfl | rfl | rfl | rfl | rfl | rfl | rfl | rfl | rfl | rfl | rfl | rfl | rfl | rfl | rfl | rfl | rfl | rfl | rfl | rfl | rfl | rfl | rfl | hk24
    · refine lv_tableIn (off := 112) (tgt := 144) hx hb dL_law_32 (by decide) (by decide) rfl rfl ?_
      exact lc_0 cx hX hbl hbA hL hi5 hrel hB hB4 hw hl kk
    · refine lv_tableIn (off := 165) (tgt := 197) hx hb dL_law_32 (by decide) (by decide) rfl rfl ?_
      exact lc_1 cx hX hbl hbA hL hi5 hrel hB hB4 hw hl kk
    · refine lv_tableIn (off := 188) (tgt := 220) hx hb dL_law_32 (by decide) (by decide) rfl rfl ?_
      exact lc_2 cx hX hbl hbA hL hi5 hrel hB hB4 hw hl kk
    · refine lv_tableIn (off := 231) (tgt := 263) hx hb dL_law_32 (by decide) (by decide) rfl rfl ?_
      exact lc_3 cx hX hbl hbA hL hi5 hrel hB hB4 hw hl kk
    · refine lv_tableIn (off := 274) (tgt := 306) hx hb dL_law_32 (by decide) (by decide) rfl rfl ?_
      exact lc_4 cx hX hbl hbA hL hi5 hrel hB hB4 hw hl kk
    · refine lv_tableIn (off := 287) (tgt := 319) hx hb dL_law_32 (by decide) (by decide) rfl rfl ?_
      exact lc_5 cx hX hbl hbA hL hi5 hrel hB hB4 hw hl kk
    · refine lv_tableIn (off := 320) (tgt := 352) hx hb dL_law_32 (by decide) (by decide) rfl rfl ?_
      exact lc_6 cx hX hbl hbA hL hi5 hrel hB hB4 hw hl kk
    · refine lv_tableIn (off := 343) (tgt := 375) hx hb dL_law_32 (by decide) (by decide) rfl rfl ?_
      exact lc_7 cx hX hbl hbA hL hi5 hrel hB hB4 hw hl kk
    · refine lv_tableIn (off := 376) (tgt := 408) hx hb dL_law_32 (by decide) (by decide) rfl rfl ?_
      exact lc_8 cx hX hbl hbA hL hi5 hrel hB hB4 hw hl kk
    · refine lv_tableIn (off := 409) (tgt := 441) hx hb dL_law_32 (by decide) (by decide) rfl rfl ?_
      exact lc_9 cx hX hbl hbA hL hi5 hrel hB hB4 hw hl kk
    · refine lv_tableIn (off := 422) (tgt := 454) hx hb dL_law_32 (by decide) (by decide) rfl rfl ?_
      exact lc_10 cx hX hbl hbA hL hi5 hrel hB hB4 hw hl kk
    · refine lv_tableIn (off := 445) (tgt := 477) hx hb dL_law_32 (by decide) (by decide) rfl rfl ?_
      exact lc_11 cx hX hbl hbA hL hi5 hrel hB hB4 hw hl kk
    · refine lv_tableIn (off := 458) (tgt := 490) hx hb dL_law_32 (by decide) (by decide) rfl rfl ?_
      exact lc_12 cx hX hbl hbA hL hi5 hrel hB hB4 hw hl kk
    · refine lv_tableIn (off := 491) (tgt := 523) hx hb dL_law_32 (by decide) (by decide) rfl rfl ?_
      exact lc_13 cx hX hbl hbA hL hi5 hrel hB hB4 hw hl kk
    · refine lv_tableIn (off := 504) (tgt := 536) hx hb dL_law_32 (by decide) (by decide) rfl rfl ?_
      exact lc_14 cx hX hbl hbA hL hi5 hrel hB hB4 hw hl kk
    · refine lv_tableIn (off := 517) (tgt := 549) hx hb dL_law_32 (by decide) (by decide) rfl rfl ?_
      exact lc_15 cx hX hbl hbA hL hi5 hrel hB hB4 hw hl kk
    · refine lv_tableIn (off := 540) (tgt := 572) hx hb dL_law_32 (by decide) (by decide) rfl rfl ?_
      exact lc_16 cx hX hbl hbA hL hi5 hrel hB hB4 hw hl kk
    · refine lv_tableIn (off := 573) (tgt := 605) hx hb dL_law_32 (by decide) (by decide) rfl rfl ?_
      exact lc_17 cx hX hbl hbA hL hi5 hrel hB hB4 hw hl kk
    · refine lv_tableIn (off := 586) (tgt := 618) hx hb dL_law_32 (by decide) (by decide) rfl rfl ?_
      exact lc_18 cx hX hbl hbA hL hi5 hrel hB hB4 hw hl kk
    · refine lv_tableIn (off := 609) (tgt := 641) hx hb dL_law_32 (by decide) (by decide) rfl rfl ?_
      exact lc_19 cx hX hbl hbA hL hi5 hrel hB hB4 hw hl kk
    · refine lv_tableIn (off := 632) (tgt := 664) hx hb dL_law_32 (by decide) (by decide) rfl rfl ?_
      exact lc_20 cx hX hbl hbA hL hi5 hrel hB hB4 hw hl kk
    · refine lv_tableIn (off := 655) (tgt := 687) hx hb dL_law_32 (by decide) (by decide) rfl rfl ?_
      exact lc_21 cx hX hbl hbA hL hi5 hrel hB hB4 hw hl kk
    · refine lv_tableIn (off := 678) (tgt := 710) hx hb dL_law_32 (by decide) (by decide) rfl rfl ?_
      exact lc_22 cx hX hbl hbA hL hi5 hrel hB hB4 hw hl kk
    · refine lv_tableIn (off := 701) (tgt := 733) hx hb dL_law_32 (by decide) (by decide) rfl rfl ?_
      exact lc_23 cx hX hbl hbA hL hi5 hrel hB hB4 hw hl kk
    · refine lv_tableOut (tgt := 746) hx hb dL_law_32 (Or.inr (by rw [nI_toInt (by omega)]; omega)) rfl ?_
      exact kk H locs ls F n G C sv nx P D0 D1 L0 L1 G0 G1 mm Cm gd gc OR DP WF Nw Hs ed mc Ob Rv Lo Hi Od Ge Pl Nt hrel hB hB4 hw hl
