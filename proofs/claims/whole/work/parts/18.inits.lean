/-! ===== arrays of arrays, made ===== -/
theorem two_ge {a b j : Nat} (h : 2 ≤ j) : two a b j = none := by
  unfold two
  rw [if_neg (by omega), if_neg (by omega)]
section ZM
variable {p : Program} {l : Launch} {e : Env} {R : Room} {s : State} {m : MethodId} {args : Array Value} {below : List Frame} {meth : Method} {c : Code} {H : Heap} {locs : List Loc} {cells slots : Nat} {Q : State → Prop}
variable {cc : ByteArray} {pc nL : Nat} {ls : Array Slot} {rest : List Value} {own : String} {E : ZE} {A : Nat → Prop} {w : va_W} {a index : Nat}
/-- new cells behind the old ones -/
theorem ZW.more {H1 : Heap} {ws : va_W} (hw : ZW E A s w H locs) (hA : ∀ q, s.heap.size ≤ q → A q) (hsz : H.size ≤ H1.size) (hold : ∀ x, x < H.size → H1[x]? = H[x]?) (hP : va_P E.1 vwCl ws H1) (hq : ∀ (k : Nat) (x : Nat × va_E), ws[k]? = some x → x.1 = H.size + k) : ZW E A s (w ++ ws) H1 locs := by
  obtain ⟨h1, h2, h3⟩ := hw
  have hP0 : va_P E.1 vwCl w H1 := h1.kept (fun k9 x hx => hold x.1 ((h1 k9 x hx).lt))
  have hlt : ∀ (k : Nat) (x : Nat × va_E), w[k]? = some x → x.1 < H.size := fun k x hx => (h1 k x hx).lt
  refine ⟨hP0.app hP, ⟨fun i j x y hi hj hxy => ?_, fun k9 x hx => ?_⟩, ⟨Nat.le_trans h3.1 hsz, fun x g1 g2 => (hold x (Nat.lt_of_lt_of_le g1 h3.1)).trans (h3.2.1 x g1 g2), h3.2.2⟩⟩
  · by_cases g1 : i < w.length <;> by_cases g2 : j < w.length
    · rw [List.getElem?_append_left g1] at hi
      rw [List.getElem?_append_left g2] at hj
      exact h2.1 i j x y hi hj hxy
    · rw [List.getElem?_append_left g1] at hi
      rw [List.getElem?_append_right (by omega)] at hj
      have := hlt _ _ hi
      have := hq _ _ hj
      omega
    · rw [List.getElem?_append_right (by omega)] at hi
      rw [List.getElem?_append_left g2] at hj
      have := hlt _ _ hj
      have := hq _ _ hi
      omega
    · rw [List.getElem?_append_right (by omega)] at hi hj
      have := hq _ _ hi
      have := hq _ _ hj
      omega
  · by_cases g1 : k9 < w.length
    · rw [List.getElem?_append_left g1] at hx
      exact h2.2 k9 x hx
    · rw [List.getElem?_append_right (by omega)] at hx
      have := hq _ _ hx
      exact hA _ (by have := h3.1; omega)
theorem mna_out (cA : ClassId) (h0 : Nat) : Jvm.Free.Multi.outerC cA 2 h0 2 = vp_cell cA (2, .inr (.inr (.inr (.inr (two (h0 + 1) (h0 + 2)))))) := by
  rw [vp_cell_q]
  show ((({ cls := cA, slots := Array.replicate 2 .null, vm := .none } : Cell).setSlot 0 (.ref (h0 + 1 + 0))).setSlot 1 (.ref (h0 + 1 + 1))) = _
  unfold arrV Cell.setSlot
  congr 1
theorem z_mna (cx : Cx p s m args meth c cc nL own E A) (hw : ZW E A s w H locs) (hcl : Cond.classLink own index "[[I" ∈ wsL_law) (harr : Cond.arrayClass .int ∈ wsL_law) (hcells : cells + 3 ≤ R.cells) (hslots : slots + 50 ≤ R.slots) (hd : decode cc pc = .ok (.multianewarray index 2, 4))
    (kk : ∀ (q r0 r1 : Nat) (H1 : Heap), ZW E A s (w ++ [(q, ra E r0 r1), (r0, ia E 24 (nA (fun _ => 0))), (r1, ia E 24 (nA (fun _ => 0)))]) H1 locs → W p l e R s m args below meth c H1 locs (cells + 3) (slots + 50) Q (F0 m (pc + 4) ls (.ref q :: rest))) : W p l e R s m args below meth c H locs cells slots Q (F0 m pc ls (.int (nI 24) :: .int (nI 2) :: rest)) := by
  obtain ⟨hx, hb, hml, hown, hts, hK, hN, hA, hlk⟩ := cx
  have hover : (Cond.arrayOver (.array .int)).before args s = true := by
    have h := hN.2.2
    unfold zAOA at h
    simpa [Cond.before, Cond.holds, Cond.value] using h
  have es : "[" ++ (FieldType.array .int).toString = "[[I" := by decide +kernel
  have hcl2 : (Cond.classLink own index ("[" ++ (FieldType.array .int).toString)).before args s = true := by rw [es]; exact hts _ hcl
  intro T hT Xs
  have n2 : (nI 2).toNatClampNeg = 2 := nI_clamp (by decide)
  have n24 : (nI 24).toNatClampNeg = 24 := nI_clamp (by decide)
  obtain ⟨vm₁, cA, comp, -, fA, fC, -, -, X', step⟩ := Xs.multianewarray2F hx hown hcl2 hover (hts _ harr) (g := F0 m pc ls (.int (nI 24) :: .int (nI 2) :: rest)) rfl (by rw [hb]; exact hd) rfl (nI_pos (by decide)) (nI_pos (by decide)) (by rw [n2]; decide) (by rw [n24]; decide) (by rw [n24]; decide) rfl rfl (by rw [n2]; exact hcells) (by rw [n2, n24]; exact hslots)
  have g1 := (hK.2 2 (E.2.2.2, .array .int) rfl).2
  have g2 := (hK.2 0 (E.2.1, .int) rfl).2
  have e1 : cA = E.2.2.2 := Option.some.inj (fA.symm.trans g1)
  have e2 : comp = E.2.1 := Option.some.inj (fC.symm.trans g2)
  subst e1; subst e2
  rw [n2, n24] at X' step
  generalize hF : Jvm.Free.Multi.fill (T.setVm vm₁) E.2.2.2 E.2.1 2 24 (defaultValue .int) 2 = F at X' step
  have hTh : (T.setVm vm₁).heap = H := hT
  obtain ⟨f1, f2, -, -⟩ := Jvm.Free.Multi.fill_facts (T.setVm vm₁) E.2.2.2 E.2.1 2 24 (defaultValue .int) 2
  have hold := fun (x : Addr) (hx : x < (T.setVm vm₁).heap.size) => Jvm.Free.Multi.fill_old (T.setVm vm₁) E.2.2.2 E.2.1 2 24 (defaultValue .int) (a := x) hx 2
  have hin := Jvm.Free.Multi.fill_inner (T.setVm vm₁) E.2.2.2 E.2.1 2 24 (defaultValue .int) 2
  rw [hF, hTh] at f1 f2 hold hin
  have hcell : Jvm.Free.Multi.innerC E.2.1 24 (defaultValue .int) = vp_cell E.2.1 (24, .inl (nA (fun _ => 0))) := by
    rw [vp_cell_i]
    show ({ cls := E.2.1, slots := Array.replicate 24 (Value.int 0), vm := .none } : Cell) = _
    rw [arrV_new]
    rfl
  have i0 := hin 0 (by decide)
  have i1 := hin 1 (by decide)
  rw [hcell] at i0 i1
  rw [mna_out] at f2
  have hw2 : ZW E A s (w ++ [(H.size, ra E (H.size + 1) (H.size + 2)), (H.size + 1, ia E 24 (nA (fun _ => 0))), (H.size + 2, ia E 24 (nA (fun _ => 0)))]) F.heap locs := by
    refine hw.more hA (by rw [f1]; omega) hold (fun k x hx => ?_) (fun k x hx => ?_)
    · match k, hx with
      | 0, hx => cases hx; exact f2
      | 1, hx => cases hx; exact i0
      | 2, hx => cases hx; exact i1
    · match k, hx with
      | 0, hx => cases hx; rfl
      | 1, hx => cases hx; rfl
      | 2, hx => cases hx; rfl
  obtain ⟨t, a1, b1⟩ := kk H.size (H.size + 1) (H.size + 2) F.heap hw2 F rfl X'
  refine ⟨t, step t ?_, b1⟩
  have e9 : T.heap.size = H.size := by rw [hT]
  rw [e9]
  exact a1
end ZM

def rmX1_init : Room := { frames := 1, cells := 10, slots := 250, locals := 24 }
set_option maxHeartbeats 4000000 in
set_option maxRecDepth 100000 in
theorem c_X1_init (l : Launch) (E : ZE) (h0 : Nat)  : ZMv l yX1_init cX1_init 1 rmX1_init E [.ref h0] [(h0, ob 1 [.null, .null, .null, .null, .int (nI 0)])] (S := Nat × Nat × Nat × Nat × Nat × Nat × Nat × Nat × Nat × Nat) (fun u => True) (fun u => [(h0, ob 1 [.ref u.1, .ref u.2.1, .ref u.2.2.2.2.1, .ref u.2.2.2.2.2.2.2.1, .int (nI 0)]), (u.1, ia E 100 (nA (fun _ => 0))), (u.2.1, ra E u.2.2.1 u.2.2.2.1), (u.2.2.1, ia E 24 (nA (fun _ => 0))), (u.2.2.2.1, ia E 24 (nA (fun _ => 0))), (u.2.2.2.2.1, ra E u.2.2.2.2.2.1 u.2.2.2.2.2.2.1), (u.2.2.2.2.2.1, ia E 24 (nA (fun _ => 0))), (u.2.2.2.2.2.2.1, ia E 24 (nA (fun _ => 0))), (u.2.2.2.2.2.2.2.1, ra E u.2.2.2.2.2.2.2.2.1 u.2.2.2.2.2.2.2.2.2), (u.2.2.2.2.2.2.2.2.1, ia E 24 (nA (fun _ => 0))), (u.2.2.2.2.2.2.2.2.2, ia E 24 (nA (fun _ => 0)))]) := by
  refine z_mv (by decide) (Nat.le_of_ble_eq_true rfl) ?_
  intro p e s m args below meth c A Q ls cx hin hw hl ret
  obtain ⟨hx, hb, hml, hown, hts, hK, hN, hA, hlk⟩ := id cx
  have hl : lv_has ls 1 [(0, .ref h0)] := hl
  refine lv_aload_n hx hb dX1_init_0 rfl (lv_at hl 0 rfl) ?_
  refine z_obj cx hl wd_47 (Nat.le_of_ble_eq_true rfl) (Nat.le_of_ble_eq_true rfl) dX1_init_1 ?_
  refine lv_aload_n hx hb dX1_init_4 rfl (lv_at hl 0 rfl) ?_
  refine lv_bipush (v := nI 100) hx hb dX1_init_5 (by decide) ?_
  refine z_newa (atype := .int) (a0 := (100, .inl (nA (fun _ => 0)))) (k := 0) cx hw 100 rfl (by decide) rfl rfl (fun _ h => by cases h) (fun _ => rfl) (by decide) wd_35 (Nat.le_of_ble_eq_true rfl) (Nat.le_of_ble_eq_true rfl) dX1_init_7 (fun q7 H hw => ?_)
  refine W.widen (k := 1) (n := 100) (Nat.le_of_ble_eq_true rfl) (Nat.le_of_ble_eq_true rfl) ?_
  have hw : ZW E A s [(h0, ob 1 [.null, .null, .null, .null, .int (nI 0)]), (q7, ia E 100 (nA (fun _ => 0)))] H [] := hw
  refine z_putF cx hw 0 0 rfl rfl inlX1 tyX1_ok nmX1 (by decide) wd_48 rfl hin rfl rfl rfl (Nat.le_of_ble_eq_true rfl) dX1_init_9 (fun H locs hw => ?_)
  have hw : ZW E A s [(h0, ob 1 [.ref q7, .null, .null, .null, .int (nI 0)]), (q7, ia E 100 (nA (fun _ => 0)))] H locs := hw
  refine lv_aload_n hx hb dX1_init_12 rfl (lv_at hl 0 rfl) ?_
  refine lv_iconst (v := nI 2) hx hb dX1_init_13 (by decide) ?_
  refine lv_bipush (v := nI 24) hx hb dX1_init_14 (by decide) ?_
  refine z_mna cx hw wd_49 wd_35 (Nat.le_of_ble_eq_true rfl) (Nat.le_of_ble_eq_true rfl) dX1_init_16 (fun q16 r16 t16 H hw => ?_)
  refine W.widen (k := 4) (n := 150) (Nat.le_of_ble_eq_true rfl) (Nat.le_of_ble_eq_true rfl) ?_
  have hw : ZW E A s [(h0, ob 1 [.ref q7, .null, .null, .null, .int (nI 0)]), (q7, ia E 100 (nA (fun _ => 0))), (q16, ra E r16 t16), (r16, ia E 24 (nA (fun _ => 0))), (t16, ia E 24 (nA (fun _ => 0)))] H locs := hw
  refine z_putF cx hw 0 1 rfl rfl inlX1 tyX1_ok nmX1 (by decide) wd_50 rfl hin rfl rfl rfl (Nat.le_of_ble_eq_true rfl) dX1_init_20 (fun H locs hw => ?_)
  have hw : ZW E A s [(h0, ob 1 [.ref q7, .ref q16, .null, .null, .int (nI 0)]), (q7, ia E 100 (nA (fun _ => 0))), (q16, ra E r16 t16), (r16, ia E 24 (nA (fun _ => 0))), (t16, ia E 24 (nA (fun _ => 0)))] H locs := hw
  refine lv_aload_n hx hb dX1_init_23 rfl (lv_at hl 0 rfl) ?_
  refine lv_iconst (v := nI 2) hx hb dX1_init_24 (by decide) ?_
  refine lv_bipush (v := nI 24) hx hb dX1_init_25 (by decide) ?_
  refine z_mna cx hw wd_49 wd_35 (Nat.le_of_ble_eq_true rfl) (Nat.le_of_ble_eq_true rfl) dX1_init_27 (fun q27 r27 t27 H hw => ?_)
  refine W.widen (k := 7) (n := 200) (Nat.le_of_ble_eq_true rfl) (Nat.le_of_ble_eq_true rfl) ?_
  have hw : ZW E A s [(h0, ob 1 [.ref q7, .ref q16, .null, .null, .int (nI 0)]), (q7, ia E 100 (nA (fun _ => 0))), (q16, ra E r16 t16), (r16, ia E 24 (nA (fun _ => 0))), (t16, ia E 24 (nA (fun _ => 0))), (q27, ra E r27 t27), (r27, ia E 24 (nA (fun _ => 0))), (t27, ia E 24 (nA (fun _ => 0)))] H locs := hw
  refine z_putF cx hw 0 2 rfl rfl inlX1 tyX1_ok nmX1 (by decide) wd_51 rfl hin rfl rfl rfl (Nat.le_of_ble_eq_true rfl) dX1_init_31 (fun H locs hw => ?_)
  have hw : ZW E A s [(h0, ob 1 [.ref q7, .ref q16, .ref q27, .null, .int (nI 0)]), (q7, ia E 100 (nA (fun _ => 0))), (q16, ra E r16 t16), (r16, ia E 24 (nA (fun _ => 0))), (t16, ia E 24 (nA (fun _ => 0))), (q27, ra E r27 t27), (r27, ia E 24 (nA (fun _ => 0))), (t27, ia E 24 (nA (fun _ => 0)))] H locs := hw
  refine lv_aload_n hx hb dX1_init_34 rfl (lv_at hl 0 rfl) ?_
  refine lv_iconst (v := nI 2) hx hb dX1_init_35 (by decide) ?_
  refine lv_bipush (v := nI 24) hx hb dX1_init_36 (by decide) ?_
  refine z_mna cx hw wd_49 wd_35 (Nat.le_of_ble_eq_true rfl) (Nat.le_of_ble_eq_true rfl) dX1_init_38 (fun q38 r38 t38 H hw => ?_)
  refine W.widen (k := 10) (n := 250) (Nat.le_of_ble_eq_true rfl) (Nat.le_of_ble_eq_true rfl) ?_
  have hw : ZW E A s [(h0, ob 1 [.ref q7, .ref q16, .ref q27, .null, .int (nI 0)]), (q7, ia E 100 (nA (fun _ => 0))), (q16, ra E r16 t16), (r16, ia E 24 (nA (fun _ => 0))), (t16, ia E 24 (nA (fun _ => 0))), (q27, ra E r27 t27), (r27, ia E 24 (nA (fun _ => 0))), (t27, ia E 24 (nA (fun _ => 0))), (q38, ra E r38 t38), (r38, ia E 24 (nA (fun _ => 0))), (t38, ia E 24 (nA (fun _ => 0)))] H locs := hw
  refine z_putF cx hw 0 3 rfl rfl inlX1 tyX1_ok nmX1 (by decide) wd_52 rfl hin rfl rfl rfl (Nat.le_of_ble_eq_true rfl) dX1_init_42 (fun H locs hw => ?_)
  have hw : ZW E A s [(h0, ob 1 [.ref q7, .ref q16, .ref q27, .ref q38, .int (nI 0)]), (q7, ia E 100 (nA (fun _ => 0))), (q16, ra E r16 t16), (r16, ia E 24 (nA (fun _ => 0))), (t16, ia E 24 (nA (fun _ => 0))), (q27, ra E r27 t27), (r27, ia E 24 (nA (fun _ => 0))), (t27, ia E 24 (nA (fun _ => 0))), (q38, ra E r38 t38), (r38, ia E 24 (nA (fun _ => 0))), (t38, ia E 24 (nA (fun _ => 0)))] H locs := hw
  refine lv_aload_n hx hb dX1_init_45 rfl (lv_at hl 0 rfl) ?_
  refine lv_iconst (v := nI 0) hx hb dX1_init_46 (by decide) ?_
  refine z_put cx hw 0 4 rfl rfl inlX1 tyX1_ok nmX1 (by decide) wd_53 rfl rfl rfl (Nat.le_of_ble_eq_true rfl) dX1_init_47 (fun H locs hw => ?_)
  have hw : ZW E A s [(h0, ob 1 [.ref q7, .ref q16, .ref q27, .ref q38, .int (nI 0)]), (q7, ia E 100 (nA (fun _ => 0))), (q16, ra E r16 t16), (r16, ia E 24 (nA (fun _ => 0))), (t16, ia E 24 (nA (fun _ => 0))), (q27, ra E r27 t27), (r27, ia E 24 (nA (fun _ => 0))), (t27, ia E 24 (nA (fun _ => 0))), (q38, ra E r38 t38), (r38, ia E 24 (nA (fun _ => 0))), (t38, ia E 24 (nA (fun _ => 0)))] H locs := hw
  have e_r50_0 : (nA (fun _ => 0)) = (nA (fun _ => 0)) := by rfl
  exact ret (q7, q16, r16, t16, q27, r27, t27, q38, r38, t38) 50 ls H locs dX1_init_50 (trivial) ((hw).cast (zc rfl (zc (congrArg (fun z => ((q7, ia E 100 z) : Nat × va_E)) e_r50_0) rfl)))

def rmX5_init : Room := { frames := 2, cells := 22, slots := 940, locals := 44 }
set_option maxHeartbeats 4000000 in
set_option maxRecDepth 100000 in
theorem c_X5_init (l : Launch) (E : ZE) (h0 : Nat)  : ZMv l yX5_init cX5_init 1 rmX5_init E [.ref h0] [(h0, ob 5 [.null, .null, .null, .null, .null])] (S := Nat × Nat × Nat × Nat × Nat × Nat × Nat × Nat × Nat × Nat × Nat × Nat × Nat × Nat × Nat × Nat × Nat × Nat × Nat × Nat × Nat × Nat) (fun u => True) (fun u => [(h0, ob 5 [.ref u.1, .ref u.2.1, .ref u.2.2.1, .ref u.2.2.2.1, .ref u.2.2.2.2.1]), (u.1, ob 4 [.ref u.2.2.2.2.2.1, .int (nI 0)]), (u.2.2.2.2.2.1, ia E 96 (nA (fun _ => 0))), (u.2.1, ob 2 [.ref u.2.2.2.2.2.2.1, .ref u.2.2.2.2.2.2.2.1, .int (nI 0), .int (nI 0)]), (u.2.2.2.2.2.2.1, ia E 480 (nA (fun _ => 0))), (u.2.2.2.2.2.2.2.1, ia E 5 (nA (fun _ => 0))), (u.2.2.1, ob 1 [.ref u.2.2.2.2.2.2.2.2.1, .ref u.2.2.2.2.2.2.2.2.2.1, .ref u.2.2.2.2.2.2.2.2.2.2.2.2.1, .ref u.2.2.2.2.2.2.2.2.2.2.2.2.2.2.2.1, .int (nI 0)]), (u.2.2.2.2.2.2.2.2.1, ia E 100 (nA (fun _ => 0))), (u.2.2.2.2.2.2.2.2.2.1, ra E u.2.2.2.2.2.2.2.2.2.2.1 u.2.2.2.2.2.2.2.2.2.2.2.1), (u.2.2.2.2.2.2.2.2.2.2.1, ia E 24 (nA (fun _ => 0))), (u.2.2.2.2.2.2.2.2.2.2.2.1, ia E 24 (nA (fun _ => 0))), (u.2.2.2.2.2.2.2.2.2.2.2.2.1, ra E u.2.2.2.2.2.2.2.2.2.2.2.2.2.1 u.2.2.2.2.2.2.2.2.2.2.2.2.2.2.1), (u.2.2.2.2.2.2.2.2.2.2.2.2.2.1, ia E 24 (nA (fun _ => 0))), (u.2.2.2.2.2.2.2.2.2.2.2.2.2.2.1, ia E 24 (nA (fun _ => 0))), (u.2.2.2.2.2.2.2.2.2.2.2.2.2.2.2.1, ra E u.2.2.2.2.2.2.2.2.2.2.2.2.2.2.2.2.1 u.2.2.2.2.2.2.2.2.2.2.2.2.2.2.2.2.2.1), (u.2.2.2.2.2.2.2.2.2.2.2.2.2.2.2.2.1, ia E 24 (nA (fun _ => 0))), (u.2.2.2.2.2.2.2.2.2.2.2.2.2.2.2.2.2.1, ia E 24 (nA (fun _ => 0))), (u.2.2.2.1, ob 3 [.ref u.2.2.2.2.2.2.2.2.2.2.2.2.2.2.2.2.2.2.1, .int (nI 0), .int (nI 0)]), (u.2.2.2.2.2.2.2.2.2.2.2.2.2.2.2.2.2.2.1, ia E 20 (nA (fun _ => 0))), (u.2.2.2.2.1, ob 0 [.ref u.2.2.2.2.2.2.2.2.2.2.2.2.2.2.2.2.2.2.2.1, .ref u.2.2.2.2.2.2.2.2.2.2.2.2.2.2.2.2.2.2.2.2.1, .ref u.2.2.2.2.2.2.2.2.2.2.2.2.2.2.2.2.2.2.2.2.2]), (u.2.2.2.2.2.2.2.2.2.2.2.2.2.2.2.2.2.2.2.1, ia E 24 (nA (fun _ => 0))), (u.2.2.2.2.2.2.2.2.2.2.2.2.2.2.2.2.2.2.2.2.1, ia E 24 (nA (fun _ => 0))), (u.2.2.2.2.2.2.2.2.2.2.2.2.2.2.2.2.2.2.2.2.2, ia E 24 (nA (fun _ => 0)))]) := by
  refine z_mv (by decide) (Nat.le_of_ble_eq_true rfl) ?_
  intro p e s m args below meth c A Q ls cx hin hw hl ret
  obtain ⟨hx, hb, hml, hown, hts, hK, hN, hA, hlk⟩ := id cx
  have hl : lv_has ls 1 [(0, .ref h0)] := hl
  refine lv_aload_n hx hb dX5_init_0 rfl (lv_at hl 0 rfl) ?_
  refine z_obj cx hl wd_9 (Nat.le_of_ble_eq_true rfl) (Nat.le_of_ble_eq_true rfl) dX5_init_1 ?_
  refine lv_aload_n hx hb dX5_init_4 rfl (lv_at hl 0 rfl) ?_
  refine z_new cx hw 4 rfl inlX4 tyX4_ok wd_12 wd_13 wd_14 [.null, .int (nI 0)] (fun j hj => by rcases (show j = 0 ∨ j = 1 by omega) with rfl | rfl <;> rfl) (Nat.le_of_ble_eq_true rfl) (Nat.le_of_ble_eq_true rfl) dX5_init_5 (fun q5 H hw => ?_)
  refine W.widen (k := 1) (n := 2) (Nat.le_of_ble_eq_true rfl) (Nat.le_of_ble_eq_true rfl) ?_
  have hw : ZW E A s [(h0, ob 5 [.null, .null, .null, .null, .null]), (q5, ob 4 [.null, .int (nI 0)])] H [] := hw
  refine lv_dup hx hb dX5_init_8 rfl ?_
  refine z_rv (wr := [(h0, ob 5 [.null, .null, .null, .null, .null])]) cx hw [1] [0] rfl rfl (by decide) (by decide) (z_runIN (As := []) (rest := [.ref q5, .ref h0]) cx hw [1] rfl rfl (c_X4_init l E q5  H.size) mf_X4_init (nm_X5_9 hN) ⟨Nat.le_of_ble_eq_true rfl, Nat.le_of_ble_eq_true rfl⟩ hl (Nat.le_of_ble_eq_true rfl) dX5_init_9 ⟨Nat.le_of_ble_eq_true rfl, Nat.le_of_ble_eq_true rfl⟩) (fun q H locs hp hw => ?_)
  refine W.widen (k := 2) (n := 98) (Nat.le_of_ble_eq_true rfl) (Nat.le_of_ble_eq_true rfl) ?_
  have hw : ZW E A s [(h0, ob 5 [.null, .null, .null, .null, .null]), (q5, ob 4 [.ref q, .int (nI 0)]), (q, ia E 96 (nA (fun _ => 0)))] H locs := hw
  refine z_putF cx hw 0 0 rfl rfl inlX5 tyX5_ok nmX5 (by decide) wd_15 rfl hin rfl rfl rfl (Nat.le_of_ble_eq_true rfl) dX5_init_12 (fun H locs hw => ?_)
  have hw : ZW E A s [(h0, ob 5 [.ref q5, .null, .null, .null, .null]), (q5, ob 4 [.ref q, .int (nI 0)]), (q, ia E 96 (nA (fun _ => 0)))] H locs := hw
  refine lv_aload_n hx hb dX5_init_15 rfl (lv_at hl 0 rfl) ?_
  refine z_new cx hw 2 rfl inlX2 tyX2_ok wd_16 wd_17 wd_18 [.null, .null, .int (nI 0), .int (nI 0)] (fun j hj => by rcases (show j = 0 ∨ j = 1 ∨ j = 2 ∨ j = 3 by omega) with rfl | rfl | rfl | rfl <;> rfl) (Nat.le_of_ble_eq_true rfl) (Nat.le_of_ble_eq_true rfl) dX5_init_16 (fun q16 H hw => ?_)
  refine W.widen (k := 3) (n := 102) (Nat.le_of_ble_eq_true rfl) (Nat.le_of_ble_eq_true rfl) ?_
  have hw : ZW E A s [(h0, ob 5 [.ref q5, .null, .null, .null, .null]), (q5, ob 4 [.ref q, .int (nI 0)]), (q, ia E 96 (nA (fun _ => 0))), (q16, ob 2 [.null, .null, .int (nI 0), .int (nI 0)])] H locs := hw
  refine lv_dup hx hb dX5_init_19 rfl ?_
  refine z_rv (wr := [(h0, ob 5 [.ref q5, .null, .null, .null, .null]), (q5, ob 4 [.ref q, .int (nI 0)]), (q, ia E 96 (nA (fun _ => 0)))]) cx hw [3] [0, 1, 2] rfl rfl (by decide) (by decide) (z_runIN (As := []) (rest := [.ref q16, .ref h0]) cx hw [3] rfl rfl (c_X2_init l E q16  H.size) mf_X2_init (nm_X5_18 hN) ⟨Nat.le_of_ble_eq_true rfl, Nat.le_of_ble_eq_true rfl⟩ hl (Nat.le_of_ble_eq_true rfl) dX5_init_20 ⟨Nat.le_of_ble_eq_true rfl, Nat.le_of_ble_eq_true rfl⟩) (fun u H locs hp hw => ?_)
  obtain ⟨qc, qn⟩ := u
  refine W.widen (k := 5) (n := 587) (Nat.le_of_ble_eq_true rfl) (Nat.le_of_ble_eq_true rfl) ?_
  have hw : ZW E A s [(h0, ob 5 [.ref q5, .null, .null, .null, .null]), (q5, ob 4 [.ref q, .int (nI 0)]), (q, ia E 96 (nA (fun _ => 0))), (q16, ob 2 [.ref qc, .ref qn, .int (nI 0), .int (nI 0)]), (qc, ia E 480 (nA (fun _ => 0))), (qn, ia E 5 (nA (fun _ => 0)))] H locs := hw
  refine z_putF cx hw 0 1 rfl rfl inlX5 tyX5_ok nmX5 (by decide) wd_19 rfl hin rfl rfl rfl (Nat.le_of_ble_eq_true rfl) dX5_init_23 (fun H locs hw => ?_)
  have hw : ZW E A s [(h0, ob 5 [.ref q5, .ref q16, .null, .null, .null]), (q5, ob 4 [.ref q, .int (nI 0)]), (q, ia E 96 (nA (fun _ => 0))), (q16, ob 2 [.ref qc, .ref qn, .int (nI 0), .int (nI 0)]), (qc, ia E 480 (nA (fun _ => 0))), (qn, ia E 5 (nA (fun _ => 0)))] H locs := hw
  refine lv_aload_n hx hb dX5_init_26 rfl (lv_at hl 0 rfl) ?_
  refine z_new cx hw 1 rfl inlX1 tyX1_ok wd_20 wd_21 wd_22 [.null, .null, .null, .null, .int (nI 0)] (fun j hj => by rcases (show j = 0 ∨ j = 1 ∨ j = 2 ∨ j = 3 ∨ j = 4 by omega) with rfl | rfl | rfl | rfl | rfl <;> rfl) (Nat.le_of_ble_eq_true rfl) (Nat.le_of_ble_eq_true rfl) dX5_init_27 (fun q27 H hw => ?_)
  refine W.widen (k := 6) (n := 592) (Nat.le_of_ble_eq_true rfl) (Nat.le_of_ble_eq_true rfl) ?_
  have hw : ZW E A s [(h0, ob 5 [.ref q5, .ref q16, .null, .null, .null]), (q5, ob 4 [.ref q, .int (nI 0)]), (q, ia E 96 (nA (fun _ => 0))), (q16, ob 2 [.ref qc, .ref qn, .int (nI 0), .int (nI 0)]), (qc, ia E 480 (nA (fun _ => 0))), (qn, ia E 5 (nA (fun _ => 0))), (q27, ob 1 [.null, .null, .null, .null, .int (nI 0)])] H locs := hw
  refine lv_dup hx hb dX5_init_30 rfl ?_
  refine z_rv (wr := [(h0, ob 5 [.ref q5, .ref q16, .null, .null, .null]), (q5, ob 4 [.ref q, .int (nI 0)]), (q, ia E 96 (nA (fun _ => 0))), (q16, ob 2 [.ref qc, .ref qn, .int (nI 0), .int (nI 0)]), (qc, ia E 480 (nA (fun _ => 0))), (qn, ia E 5 (nA (fun _ => 0)))]) cx hw [6] [0, 1, 2, 3, 4, 5] rfl rfl (by decide) (by decide) (z_runIN (As := []) (rest := [.ref q27, .ref h0]) cx hw [6] rfl rfl (c_X1_init l E q27  H.size) mf_X1_init (nm_X5_25 hN) ⟨Nat.le_of_ble_eq_true rfl, Nat.le_of_ble_eq_true rfl⟩ hl (Nat.le_of_ble_eq_true rfl) dX5_init_31 ⟨Nat.le_of_ble_eq_true rfl, Nat.le_of_ble_eq_true rfl⟩) (fun u H locs hp hw => ?_)
  obtain ⟨qp, qd, d0, d1, ql, l0, l1, qg, g0, g1⟩ := u
  refine W.widen (k := 16) (n := 842) (Nat.le_of_ble_eq_true rfl) (Nat.le_of_ble_eq_true rfl) ?_
  have hw : ZW E A s [(h0, ob 5 [.ref q5, .ref q16, .null, .null, .null]), (q5, ob 4 [.ref q, .int (nI 0)]), (q, ia E 96 (nA (fun _ => 0))), (q16, ob 2 [.ref qc, .ref qn, .int (nI 0), .int (nI 0)]), (qc, ia E 480 (nA (fun _ => 0))), (qn, ia E 5 (nA (fun _ => 0))), (q27, ob 1 [.ref qp, .ref qd, .ref ql, .ref qg, .int (nI 0)]), (qp, ia E 100 (nA (fun _ => 0))), (qd, ra E d0 d1), (d0, ia E 24 (nA (fun _ => 0))), (d1, ia E 24 (nA (fun _ => 0))), (ql, ra E l0 l1), (l0, ia E 24 (nA (fun _ => 0))), (l1, ia E 24 (nA (fun _ => 0))), (qg, ra E g0 g1), (g0, ia E 24 (nA (fun _ => 0))), (g1, ia E 24 (nA (fun _ => 0)))] H locs := hw
  refine z_putF cx hw 0 2 rfl rfl inlX5 tyX5_ok nmX5 (by decide) wd_23 rfl hin rfl rfl rfl (Nat.le_of_ble_eq_true rfl) dX5_init_34 (fun H locs hw => ?_)
  have hw : ZW E A s [(h0, ob 5 [.ref q5, .ref q16, .ref q27, .null, .null]), (q5, ob 4 [.ref q, .int (nI 0)]), (q, ia E 96 (nA (fun _ => 0))), (q16, ob 2 [.ref qc, .ref qn, .int (nI 0), .int (nI 0)]), (qc, ia E 480 (nA (fun _ => 0))), (qn, ia E 5 (nA (fun _ => 0))), (q27, ob 1 [.ref qp, .ref qd, .ref ql, .ref qg, .int (nI 0)]), (qp, ia E 100 (nA (fun _ => 0))), (qd, ra E d0 d1), (d0, ia E 24 (nA (fun _ => 0))), (d1, ia E 24 (nA (fun _ => 0))), (ql, ra E l0 l1), (l0, ia E 24 (nA (fun _ => 0))), (l1, ia E 24 (nA (fun _ => 0))), (qg, ra E g0 g1), (g0, ia E 24 (nA (fun _ => 0))), (g1, ia E 24 (nA (fun _ => 0)))] H locs := hw
  refine lv_aload_n hx hb dX5_init_37 rfl (lv_at hl 0 rfl) ?_
  refine z_new cx hw 3 rfl inlX3 tyX3_ok wd_24 wd_25 wd_26 [.null, .int (nI 0), .int (nI 0)] (fun j hj => by rcases (show j = 0 ∨ j = 1 ∨ j = 2 by omega) with rfl | rfl | rfl <;> rfl) (Nat.le_of_ble_eq_true rfl) (Nat.le_of_ble_eq_true rfl) dX5_init_38 (fun q38 H hw => ?_)
  refine W.widen (k := 17) (n := 845) (Nat.le_of_ble_eq_true rfl) (Nat.le_of_ble_eq_true rfl) ?_
  have hw : ZW E A s [(h0, ob 5 [.ref q5, .ref q16, .ref q27, .null, .null]), (q5, ob 4 [.ref q, .int (nI 0)]), (q, ia E 96 (nA (fun _ => 0))), (q16, ob 2 [.ref qc, .ref qn, .int (nI 0), .int (nI 0)]), (qc, ia E 480 (nA (fun _ => 0))), (qn, ia E 5 (nA (fun _ => 0))), (q27, ob 1 [.ref qp, .ref qd, .ref ql, .ref qg, .int (nI 0)]), (qp, ia E 100 (nA (fun _ => 0))), (qd, ra E d0 d1), (d0, ia E 24 (nA (fun _ => 0))), (d1, ia E 24 (nA (fun _ => 0))), (ql, ra E l0 l1), (l0, ia E 24 (nA (fun _ => 0))), (l1, ia E 24 (nA (fun _ => 0))), (qg, ra E g0 g1), (g0, ia E 24 (nA (fun _ => 0))), (g1, ia E 24 (nA (fun _ => 0))), (q38, ob 3 [.null, .int (nI 0), .int (nI 0)])] H locs := hw
  refine lv_dup hx hb dX5_init_41 rfl ?_
  refine z_rv (wr := [(h0, ob 5 [.ref q5, .ref q16, .ref q27, .null, .null]), (q5, ob 4 [.ref q, .int (nI 0)]), (q, ia E 96 (nA (fun _ => 0))), (q16, ob 2 [.ref qc, .ref qn, .int (nI 0), .int (nI 0)]), (qc, ia E 480 (nA (fun _ => 0))), (qn, ia E 5 (nA (fun _ => 0))), (q27, ob 1 [.ref qp, .ref qd, .ref ql, .ref qg, .int (nI 0)]), (qp, ia E 100 (nA (fun _ => 0))), (qd, ra E d0 d1), (d0, ia E 24 (nA (fun _ => 0))), (d1, ia E 24 (nA (fun _ => 0))), (ql, ra E l0 l1), (l0, ia E 24 (nA (fun _ => 0))), (l1, ia E 24 (nA (fun _ => 0))), (qg, ra E g0 g1), (g0, ia E 24 (nA (fun _ => 0))), (g1, ia E 24 (nA (fun _ => 0)))]) cx hw [17] [0, 1, 2, 3, 4, 5, 6, 7, 8, 9, 10, 11, 12, 13, 14, 15, 16] rfl rfl (by decide) (by decide) (z_runIN (As := []) (rest := [.ref q38, .ref h0]) cx hw [17] rfl rfl (c_X3_init l E q38  H.size) mf_X3_init (nm_X5_32 hN) ⟨Nat.le_of_ble_eq_true rfl, Nat.le_of_ble_eq_true rfl⟩ hl (Nat.le_of_ble_eq_true rfl) dX5_init_42 ⟨Nat.le_of_ble_eq_true rfl, Nat.le_of_ble_eq_true rfl⟩) (fun qC H locs hp hw => ?_)
  refine W.widen (k := 18) (n := 865) (Nat.le_of_ble_eq_true rfl) (Nat.le_of_ble_eq_true rfl) ?_
  have hw : ZW E A s [(h0, ob 5 [.ref q5, .ref q16, .ref q27, .null, .null]), (q5, ob 4 [.ref q, .int (nI 0)]), (q, ia E 96 (nA (fun _ => 0))), (q16, ob 2 [.ref qc, .ref qn, .int (nI 0), .int (nI 0)]), (qc, ia E 480 (nA (fun _ => 0))), (qn, ia E 5 (nA (fun _ => 0))), (q27, ob 1 [.ref qp, .ref qd, .ref ql, .ref qg, .int (nI 0)]), (qp, ia E 100 (nA (fun _ => 0))), (qd, ra E d0 d1), (d0, ia E 24 (nA (fun _ => 0))), (d1, ia E 24 (nA (fun _ => 0))), (ql, ra E l0 l1), (l0, ia E 24 (nA (fun _ => 0))), (l1, ia E 24 (nA (fun _ => 0))), (qg, ra E g0 g1), (g0, ia E 24 (nA (fun _ => 0))), (g1, ia E 24 (nA (fun _ => 0))), (q38, ob 3 [.ref qC, .int (nI 0), .int (nI 0)]), (qC, ia E 20 (nA (fun _ => 0)))] H locs := hw
  refine z_putF cx hw 0 3 rfl rfl inlX5 tyX5_ok nmX5 (by decide) wd_27 rfl hin rfl rfl rfl (Nat.le_of_ble_eq_true rfl) dX5_init_45 (fun H locs hw => ?_)
  have hw : ZW E A s [(h0, ob 5 [.ref q5, .ref q16, .ref q27, .ref q38, .null]), (q5, ob 4 [.ref q, .int (nI 0)]), (q, ia E 96 (nA (fun _ => 0))), (q16, ob 2 [.ref qc, .ref qn, .int (nI 0), .int (nI 0)]), (qc, ia E 480 (nA (fun _ => 0))), (qn, ia E 5 (nA (fun _ => 0))), (q27, ob 1 [.ref qp, .ref qd, .ref ql, .ref qg, .int (nI 0)]), (qp, ia E 100 (nA (fun _ => 0))), (qd, ra E d0 d1), (d0, ia E 24 (nA (fun _ => 0))), (d1, ia E 24 (nA (fun _ => 0))), (ql, ra E l0 l1), (l0, ia E 24 (nA (fun _ => 0))), (l1, ia E 24 (nA (fun _ => 0))), (qg, ra E g0 g1), (g0, ia E 24 (nA (fun _ => 0))), (g1, ia E 24 (nA (fun _ => 0))), (q38, ob 3 [.ref qC, .int (nI 0), .int (nI 0)]), (qC, ia E 20 (nA (fun _ => 0)))] H locs := hw
  refine lv_aload_n hx hb dX5_init_48 rfl (lv_at hl 0 rfl) ?_
  refine z_new cx hw 0 rfl inlX0 tyX0_ok wd_28 wd_29 wd_30 [.null, .null, .null] (fun j hj => by rcases (show j = 0 ∨ j = 1 ∨ j = 2 by omega) with rfl | rfl | rfl <;> rfl) (Nat.le_of_ble_eq_true rfl) (Nat.le_of_ble_eq_true rfl) dX5_init_49 (fun q49 H hw => ?_)
  refine W.widen (k := 19) (n := 868) (Nat.le_of_ble_eq_true rfl) (Nat.le_of_ble_eq_true rfl) ?_
  have hw : ZW E A s [(h0, ob 5 [.ref q5, .ref q16, .ref q27, .ref q38, .null]), (q5, ob 4 [.ref q, .int (nI 0)]), (q, ia E 96 (nA (fun _ => 0))), (q16, ob 2 [.ref qc, .ref qn, .int (nI 0), .int (nI 0)]), (qc, ia E 480 (nA (fun _ => 0))), (qn, ia E 5 (nA (fun _ => 0))), (q27, ob 1 [.ref qp, .ref qd, .ref ql, .ref qg, .int (nI 0)]), (qp, ia E 100 (nA (fun _ => 0))), (qd, ra E d0 d1), (d0, ia E 24 (nA (fun _ => 0))), (d1, ia E 24 (nA (fun _ => 0))), (ql, ra E l0 l1), (l0, ia E 24 (nA (fun _ => 0))), (l1, ia E 24 (nA (fun _ => 0))), (qg, ra E g0 g1), (g0, ia E 24 (nA (fun _ => 0))), (g1, ia E 24 (nA (fun _ => 0))), (q38, ob 3 [.ref qC, .int (nI 0), .int (nI 0)]), (qC, ia E 20 (nA (fun _ => 0))), (q49, ob 0 [.null, .null, .null])] H locs := hw
  refine lv_dup hx hb dX5_init_52 rfl ?_
  refine z_rv (wr := [(h0, ob 5 [.ref q5, .ref q16, .ref q27, .ref q38, .null]), (q5, ob 4 [.ref q, .int (nI 0)]), (q, ia E 96 (nA (fun _ => 0))), (q16, ob 2 [.ref qc, .ref qn, .int (nI 0), .int (nI 0)]), (qc, ia E 480 (nA (fun _ => 0))), (qn, ia E 5 (nA (fun _ => 0))), (q27, ob 1 [.ref qp, .ref qd, .ref ql, .ref qg, .int (nI 0)]), (qp, ia E 100 (nA (fun _ => 0))), (qd, ra E d0 d1), (d0, ia E 24 (nA (fun _ => 0))), (d1, ia E 24 (nA (fun _ => 0))), (ql, ra E l0 l1), (l0, ia E 24 (nA (fun _ => 0))), (l1, ia E 24 (nA (fun _ => 0))), (qg, ra E g0 g1), (g0, ia E 24 (nA (fun _ => 0))), (g1, ia E 24 (nA (fun _ => 0))), (q38, ob 3 [.ref qC, .int (nI 0), .int (nI 0)]), (qC, ia E 20 (nA (fun _ => 0)))]) cx hw [19] [0, 1, 2, 3, 4, 5, 6, 7, 8, 9, 10, 11, 12, 13, 14, 15, 16, 17, 18] rfl rfl (by decide) (by decide) (z_runIN (As := []) (rest := [.ref q49, .ref h0]) cx hw [19] rfl rfl (c_X0_init l E q49  H.size) mf_X0_init (nm_X5_39 hN) ⟨Nat.le_of_ble_eq_true rfl, Nat.le_of_ble_eq_true rfl⟩ hl (Nat.le_of_ble_eq_true rfl) dX5_init_53 ⟨Nat.le_of_ble_eq_true rfl, Nat.le_of_ble_eq_true rfl⟩) (fun u H locs hp hw => ?_)
  obtain ⟨qo, qe, qw⟩ := u
  refine W.widen (k := 22) (n := 940) (Nat.le_of_ble_eq_true rfl) (Nat.le_of_ble_eq_true rfl) ?_
  have hw : ZW E A s [(h0, ob 5 [.ref q5, .ref q16, .ref q27, .ref q38, .null]), (q5, ob 4 [.ref q, .int (nI 0)]), (q, ia E 96 (nA (fun _ => 0))), (q16, ob 2 [.ref qc, .ref qn, .int (nI 0), .int (nI 0)]), (qc, ia E 480 (nA (fun _ => 0))), (qn, ia E 5 (nA (fun _ => 0))), (q27, ob 1 [.ref qp, .ref qd, .ref ql, .ref qg, .int (nI 0)]), (qp, ia E 100 (nA (fun _ => 0))), (qd, ra E d0 d1), (d0, ia E 24 (nA (fun _ => 0))), (d1, ia E 24 (nA (fun _ => 0))), (ql, ra E l0 l1), (l0, ia E 24 (nA (fun _ => 0))), (l1, ia E 24 (nA (fun _ => 0))), (qg, ra E g0 g1), (g0, ia E 24 (nA (fun _ => 0))), (g1, ia E 24 (nA (fun _ => 0))), (q38, ob 3 [.ref qC, .int (nI 0), .int (nI 0)]), (qC, ia E 20 (nA (fun _ => 0))), (q49, ob 0 [.ref qo, .ref qe, .ref qw]), (qo, ia E 24 (nA (fun _ => 0))), (qe, ia E 24 (nA (fun _ => 0))), (qw, ia E 24 (nA (fun _ => 0)))] H locs := hw
  refine z_putF cx hw 0 4 rfl rfl inlX5 tyX5_ok nmX5 (by decide) wd_31 rfl hin rfl rfl rfl (Nat.le_of_ble_eq_true rfl) dX5_init_56 (fun H locs hw => ?_)
  have hw : ZW E A s [(h0, ob 5 [.ref q5, .ref q16, .ref q27, .ref q38, .ref q49]), (q5, ob 4 [.ref q, .int (nI 0)]), (q, ia E 96 (nA (fun _ => 0))), (q16, ob 2 [.ref qc, .ref qn, .int (nI 0), .int (nI 0)]), (qc, ia E 480 (nA (fun _ => 0))), (qn, ia E 5 (nA (fun _ => 0))), (q27, ob 1 [.ref qp, .ref qd, .ref ql, .ref qg, .int (nI 0)]), (qp, ia E 100 (nA (fun _ => 0))), (qd, ra E d0 d1), (d0, ia E 24 (nA (fun _ => 0))), (d1, ia E 24 (nA (fun _ => 0))), (ql, ra E l0 l1), (l0, ia E 24 (nA (fun _ => 0))), (l1, ia E 24 (nA (fun _ => 0))), (qg, ra E g0 g1), (g0, ia E 24 (nA (fun _ => 0))), (g1, ia E 24 (nA (fun _ => 0))), (q38, ob 3 [.ref qC, .int (nI 0), .int (nI 0)]), (qC, ia E 20 (nA (fun _ => 0))), (q49, ob 0 [.ref qo, .ref qe, .ref qw]), (qo, ia E 24 (nA (fun _ => 0))), (qe, ia E 24 (nA (fun _ => 0))), (qw, ia E 24 (nA (fun _ => 0)))] H locs := hw
  have e_r59_0 : (nI 0) = (nI 0) := by rfl
  have e_r59_1 : (nA (fun _ => 0)) = (nA (fun _ => 0)) := by rfl
  have e_r59_2 : (nA (fun _ => 0)) = (nA (fun _ => 0)) := by rfl
  exact ret (q5, q16, q27, q38, q49, q, qc, qn, qp, qd, d0, d1, ql, l0, l1, qg, g0, g1, qC, qo, qe, qw) 59 ls H locs dX5_init_59 (trivial) ((hw).cast (zc rfl (zc rfl (zc rfl (zc rfl (zc rfl (zc rfl (zc rfl (zc rfl (zc rfl (zc rfl (zc rfl (zc rfl (zc rfl (zc rfl (zc rfl (zc rfl (zc rfl (zc (congrArg (fun z => ((q38, ob 3 [.ref qC, .int (nI 0), .int z]) : Nat × va_E)) e_r59_0) (zc (congrArg (fun z => ((qC, ia E 20 z) : Nat × va_E)) e_r59_1) (zc rfl (zc rfl (zc rfl (zc (congrArg (fun z => ((qw, ia E 24 z) : Nat × va_E)) e_r59_2) rfl))))))))))))))))))))))))

def rmX6_init : Room := { frames := 1, cells := 10, slots := 818, locals := 24 }
set_option maxHeartbeats 4000000 in
set_option maxRecDepth 100000 in
theorem c_X6_init (l : Launch) (E : ZE) (h0 : Nat)  : ZMv l yX6_init cX6_init 1 rmX6_init E [.ref h0] [(h0, ob 6 [.null, .null, .int (nI 0), .int (nI 0), .null, .null, .null, .null, .null, .null, .null, .null])] (S := Nat × Nat × Nat × Nat × Nat × Nat × Nat × Nat × Nat × Nat) (fun u => True) (fun u => [(h0, ob 6 [.ref u.1, .ref u.2.1, .int (nI 0), .int (nI 0), .ref u.2.2.1, .ref u.2.2.2.1, .ref u.2.2.2.2.1, .ref u.2.2.2.2.2.1, .ref u.2.2.2.2.2.2.1, .ref u.2.2.2.2.2.2.2.1, .ref u.2.2.2.2.2.2.2.2.1, .ref u.2.2.2.2.2.2.2.2.2]), (u.1, ia E 97 (nA (fun _ => 0))), (u.2.1, ia E 485 (nA (fun _ => 0))), (u.2.2.1, ia E 24 (nA (fun _ => 0))), (u.2.2.2.1, ia E 24 (nA (fun _ => 0))), (u.2.2.2.2.1, ia E 48 (nA (fun _ => 0))), (u.2.2.2.2.2.1, ia E 48 (nA (fun _ => 0))), (u.2.2.2.2.2.2.1, ia E 24 (nA (fun _ => 0))), (u.2.2.2.2.2.2.2.1, ia E 24 (nA (fun _ => 0))), (u.2.2.2.2.2.2.2.2.1, ba E 24 (bA (fun _ => false))), (u.2.2.2.2.2.2.2.2.2, ia E 20 (nA (fun _ => 0)))]) := by
  refine z_mv (by decide) (Nat.le_of_ble_eq_true rfl) ?_
  intro p e s m args below meth c A Q ls cx hin hw hl ret
  obtain ⟨hx, hb, hml, hown, hts, hK, hN, hA, hlk⟩ := id cx
  have hl : lv_has ls 1 [(0, .ref h0)] := hl
  refine lv_aload_n hx hb dX6_init_0 rfl (lv_at hl 0 rfl) ?_
  refine z_obj cx hl wd_69 (Nat.le_of_ble_eq_true rfl) (Nat.le_of_ble_eq_true rfl) dX6_init_1 ?_
  refine lv_aload_n hx hb dX6_init_4 rfl (lv_at hl 0 rfl) ?_
  refine lv_bipush (v := nI 97) hx hb dX6_init_5 (by decide) ?_
  refine z_newa (atype := .int) (a0 := (97, .inl (nA (fun _ => 0)))) (k := 0) cx hw 97 rfl (by decide) rfl rfl (fun _ h => by cases h) (fun _ => rfl) (by decide) wd_35 (Nat.le_of_ble_eq_true rfl) (Nat.le_of_ble_eq_true rfl) dX6_init_7 (fun q7 H hw => ?_)
  refine W.widen (k := 1) (n := 97) (Nat.le_of_ble_eq_true rfl) (Nat.le_of_ble_eq_true rfl) ?_
  have hw : ZW E A s [(h0, ob 6 [.null, .null, .int (nI 0), .int (nI 0), .null, .null, .null, .null, .null, .null, .null, .null]), (q7, ia E 97 (nA (fun _ => 0)))] H [] := hw
  refine z_putF cx hw 0 0 rfl rfl inlX6 tyX6_ok nmX6 (by decide) wd_70 rfl hin rfl rfl rfl (Nat.le_of_ble_eq_true rfl) dX6_init_9 (fun H locs hw => ?_)
  have hw : ZW E A s [(h0, ob 6 [.ref q7, .null, .int (nI 0), .int (nI 0), .null, .null, .null, .null, .null, .null, .null, .null]), (q7, ia E 97 (nA (fun _ => 0)))] H locs := hw
  refine lv_aload_n hx hb dX6_init_12 rfl (lv_at hl 0 rfl) ?_
  refine lv_sipush (v := nI 485) hx hb dX6_init_13 (by decide) ?_
  refine z_newa (atype := .int) (a0 := (485, .inl (nA (fun _ => 0)))) (k := 0) cx hw 485 rfl (by decide) rfl rfl (fun _ h => by cases h) (fun _ => rfl) (by decide) wd_35 (Nat.le_of_ble_eq_true rfl) (Nat.le_of_ble_eq_true rfl) dX6_init_16 (fun q16 H hw => ?_)
  refine W.widen (k := 2) (n := 582) (Nat.le_of_ble_eq_true rfl) (Nat.le_of_ble_eq_true rfl) ?_
  have hw : ZW E A s [(h0, ob 6 [.ref q7, .null, .int (nI 0), .int (nI 0), .null, .null, .null, .null, .null, .null, .null, .null]), (q7, ia E 97 (nA (fun _ => 0))), (q16, ia E 485 (nA (fun _ => 0)))] H locs := hw
  refine z_putF cx hw 0 1 rfl rfl inlX6 tyX6_ok nmX6 (by decide) wd_71 rfl hin rfl rfl rfl (Nat.le_of_ble_eq_true rfl) dX6_init_18 (fun H locs hw => ?_)
  have hw : ZW E A s [(h0, ob 6 [.ref q7, .ref q16, .int (nI 0), .int (nI 0), .null, .null, .null, .null, .null, .null, .null, .null]), (q7, ia E 97 (nA (fun _ => 0))), (q16, ia E 485 (nA (fun _ => 0)))] H locs := hw
  refine lv_aload_n hx hb dX6_init_21 rfl (lv_at hl 0 rfl) ?_
  refine lv_bipush (v := nI 24) hx hb dX6_init_22 (by decide) ?_
  refine z_newa (atype := .int) (a0 := (24, .inl (nA (fun _ => 0)))) (k := 0) cx hw 24 rfl (by decide) rfl rfl (fun _ h => by cases h) (fun _ => rfl) (by decide) wd_35 (Nat.le_of_ble_eq_true rfl) (Nat.le_of_ble_eq_true rfl) dX6_init_24 (fun q24 H hw => ?_)
  refine W.widen (k := 3) (n := 606) (Nat.le_of_ble_eq_true rfl) (Nat.le_of_ble_eq_true rfl) ?_
  have hw : ZW E A s [(h0, ob 6 [.ref q7, .ref q16, .int (nI 0), .int (nI 0), .null, .null, .null, .null, .null, .null, .null, .null]), (q7, ia E 97 (nA (fun _ => 0))), (q16, ia E 485 (nA (fun _ => 0))), (q24, ia E 24 (nA (fun _ => 0)))] H locs := hw
  refine z_putF cx hw 0 4 rfl rfl inlX6 tyX6_ok nmX6 (by decide) wd_72 rfl hin rfl rfl rfl (Nat.le_of_ble_eq_true rfl) dX6_init_26 (fun H locs hw => ?_)
  have hw : ZW E A s [(h0, ob 6 [.ref q7, .ref q16, .int (nI 0), .int (nI 0), .ref q24, .null, .null, .null, .null, .null, .null, .null]), (q7, ia E 97 (nA (fun _ => 0))), (q16, ia E 485 (nA (fun _ => 0))), (q24, ia E 24 (nA (fun _ => 0)))] H locs := hw
  refine lv_aload_n hx hb dX6_init_29 rfl (lv_at hl 0 rfl) ?_
  refine lv_bipush (v := nI 24) hx hb dX6_init_30 (by decide) ?_
  refine z_newa (atype := .int) (a0 := (24, .inl (nA (fun _ => 0)))) (k := 0) cx hw 24 rfl (by decide) rfl rfl (fun _ h => by cases h) (fun _ => rfl) (by decide) wd_35 (Nat.le_of_ble_eq_true rfl) (Nat.le_of_ble_eq_true rfl) dX6_init_32 (fun q32 H hw => ?_)
  refine W.widen (k := 4) (n := 630) (Nat.le_of_ble_eq_true rfl) (Nat.le_of_ble_eq_true rfl) ?_
  have hw : ZW E A s [(h0, ob 6 [.ref q7, .ref q16, .int (nI 0), .int (nI 0), .ref q24, .null, .null, .null, .null, .null, .null, .null]), (q7, ia E 97 (nA (fun _ => 0))), (q16, ia E 485 (nA (fun _ => 0))), (q24, ia E 24 (nA (fun _ => 0))), (q32, ia E 24 (nA (fun _ => 0)))] H locs := hw
  refine z_putF cx hw 0 5 rfl rfl inlX6 tyX6_ok nmX6 (by decide) wd_73 rfl hin rfl rfl rfl (Nat.le_of_ble_eq_true rfl) dX6_init_34 (fun H locs hw => ?_)
  have hw : ZW E A s [(h0, ob 6 [.ref q7, .ref q16, .int (nI 0), .int (nI 0), .ref q24, .ref q32, .null, .null, .null, .null, .null, .null]), (q7, ia E 97 (nA (fun _ => 0))), (q16, ia E 485 (nA (fun _ => 0))), (q24, ia E 24 (nA (fun _ => 0))), (q32, ia E 24 (nA (fun _ => 0)))] H locs := hw
  refine lv_aload_n hx hb dX6_init_37 rfl (lv_at hl 0 rfl) ?_
  refine lv_bipush (v := nI 48) hx hb dX6_init_38 (by decide) ?_
  refine z_newa (atype := .int) (a0 := (48, .inl (nA (fun _ => 0)))) (k := 0) cx hw 48 rfl (by decide) rfl rfl (fun _ h => by cases h) (fun _ => rfl) (by decide) wd_35 (Nat.le_of_ble_eq_true rfl) (Nat.le_of_ble_eq_true rfl) dX6_init_40 (fun q40 H hw => ?_)
  refine W.widen (k := 5) (n := 678) (Nat.le_of_ble_eq_true rfl) (Nat.le_of_ble_eq_true rfl) ?_
  have hw : ZW E A s [(h0, ob 6 [.ref q7, .ref q16, .int (nI 0), .int (nI 0), .ref q24, .ref q32, .null, .null, .null, .null, .null, .null]), (q7, ia E 97 (nA (fun _ => 0))), (q16, ia E 485 (nA (fun _ => 0))), (q24, ia E 24 (nA (fun _ => 0))), (q32, ia E 24 (nA (fun _ => 0))), (q40, ia E 48 (nA (fun _ => 0)))] H locs := hw
  refine z_putF cx hw 0 6 rfl rfl inlX6 tyX6_ok nmX6 (by decide) wd_74 rfl hin rfl rfl rfl (Nat.le_of_ble_eq_true rfl) dX6_init_42 (fun H locs hw => ?_)
  have hw : ZW E A s [(h0, ob 6 [.ref q7, .ref q16, .int (nI 0), .int (nI 0), .ref q24, .ref q32, .ref q40, .null, .null, .null, .null, .null]), (q7, ia E 97 (nA (fun _ => 0))), (q16, ia E 485 (nA (fun _ => 0))), (q24, ia E 24 (nA (fun _ => 0))), (q32, ia E 24 (nA (fun _ => 0))), (q40, ia E 48 (nA (fun _ => 0)))] H locs := hw
  refine lv_aload_n hx hb dX6_init_45 rfl (lv_at hl 0 rfl) ?_
  refine lv_bipush (v := nI 48) hx hb dX6_init_46 (by decide) ?_
  refine z_newa (atype := .int) (a0 := (48, .inl (nA (fun _ => 0)))) (k := 0) cx hw 48 rfl (by decide) rfl rfl (fun _ h => by cases h) (fun _ => rfl) (by decide) wd_35 (Nat.le_of_ble_eq_true rfl) (Nat.le_of_ble_eq_true rfl) dX6_init_48 (fun q48 H hw => ?_)
  refine W.widen (k := 6) (n := 726) (Nat.le_of_ble_eq_true rfl) (Nat.le_of_ble_eq_true rfl) ?_
  have hw : ZW E A s [(h0, ob 6 [.ref q7, .ref q16, .int (nI 0), .int (nI 0), .ref q24, .ref q32, .ref q40, .null, .null, .null, .null, .null]), (q7, ia E 97 (nA (fun _ => 0))), (q16, ia E 485 (nA (fun _ => 0))), (q24, ia E 24 (nA (fun _ => 0))), (q32, ia E 24 (nA (fun _ => 0))), (q40, ia E 48 (nA (fun _ => 0))), (q48, ia E 48 (nA (fun _ => 0)))] H locs := hw
  refine z_putF cx hw 0 7 rfl rfl inlX6 tyX6_ok nmX6 (by decide) wd_75 rfl hin rfl rfl rfl (Nat.le_of_ble_eq_true rfl) dX6_init_50 (fun H locs hw => ?_)
  have hw : ZW E A s [(h0, ob 6 [.ref q7, .ref q16, .int (nI 0), .int (nI 0), .ref q24, .ref q32, .ref q40, .ref q48, .null, .null, .null, .null]), (q7, ia E 97 (nA (fun _ => 0))), (q16, ia E 485 (nA (fun _ => 0))), (q24, ia E 24 (nA (fun _ => 0))), (q32, ia E 24 (nA (fun _ => 0))), (q40, ia E 48 (nA (fun _ => 0))), (q48, ia E 48 (nA (fun _ => 0)))] H locs := hw
  refine lv_aload_n hx hb dX6_init_53 rfl (lv_at hl 0 rfl) ?_
  refine lv_bipush (v := nI 24) hx hb dX6_init_54 (by decide) ?_
  refine z_newa (atype := .int) (a0 := (24, .inl (nA (fun _ => 0)))) (k := 0) cx hw 24 rfl (by decide) rfl rfl (fun _ h => by cases h) (fun _ => rfl) (by decide) wd_35 (Nat.le_of_ble_eq_true rfl) (Nat.le_of_ble_eq_true rfl) dX6_init_56 (fun q56 H hw => ?_)
  refine W.widen (k := 7) (n := 750) (Nat.le_of_ble_eq_true rfl) (Nat.le_of_ble_eq_true rfl) ?_
  have hw : ZW E A s [(h0, ob 6 [.ref q7, .ref q16, .int (nI 0), .int (nI 0), .ref q24, .ref q32, .ref q40, .ref q48, .null, .null, .null, .null]), (q7, ia E 97 (nA (fun _ => 0))), (q16, ia E 485 (nA (fun _ => 0))), (q24, ia E 24 (nA (fun _ => 0))), (q32, ia E 24 (nA (fun _ => 0))), (q40, ia E 48 (nA (fun _ => 0))), (q48, ia E 48 (nA (fun _ => 0))), (q56, ia E 24 (nA (fun _ => 0)))] H locs := hw
  refine z_putF cx hw 0 8 rfl rfl inlX6 tyX6_ok nmX6 (by decide) wd_76 rfl hin rfl rfl rfl (Nat.le_of_ble_eq_true rfl) dX6_init_58 (fun H locs hw => ?_)
  have hw : ZW E A s [(h0, ob 6 [.ref q7, .ref q16, .int (nI 0), .int (nI 0), .ref q24, .ref q32, .ref q40, .ref q48, .ref q56, .null, .null, .null]), (q7, ia E 97 (nA (fun _ => 0))), (q16, ia E 485 (nA (fun _ => 0))), (q24, ia E 24 (nA (fun _ => 0))), (q32, ia E 24 (nA (fun _ => 0))), (q40, ia E 48 (nA (fun _ => 0))), (q48, ia E 48 (nA (fun _ => 0))), (q56, ia E 24 (nA (fun _ => 0)))] H locs := hw
  refine lv_aload_n hx hb dX6_init_61 rfl (lv_at hl 0 rfl) ?_
  refine lv_bipush (v := nI 24) hx hb dX6_init_62 (by decide) ?_
  refine z_newa (atype := .int) (a0 := (24, .inl (nA (fun _ => 0)))) (k := 0) cx hw 24 rfl (by decide) rfl rfl (fun _ h => by cases h) (fun _ => rfl) (by decide) wd_35 (Nat.le_of_ble_eq_true rfl) (Nat.le_of_ble_eq_true rfl) dX6_init_64 (fun q64 H hw => ?_)
  refine W.widen (k := 8) (n := 774) (Nat.le_of_ble_eq_true rfl) (Nat.le_of_ble_eq_true rfl) ?_
  have hw : ZW E A s [(h0, ob 6 [.ref q7, .ref q16, .int (nI 0), .int (nI 0), .ref q24, .ref q32, .ref q40, .ref q48, .ref q56, .null, .null, .null]), (q7, ia E 97 (nA (fun _ => 0))), (q16, ia E 485 (nA (fun _ => 0))), (q24, ia E 24 (nA (fun _ => 0))), (q32, ia E 24 (nA (fun _ => 0))), (q40, ia E 48 (nA (fun _ => 0))), (q48, ia E 48 (nA (fun _ => 0))), (q56, ia E 24 (nA (fun _ => 0))), (q64, ia E 24 (nA (fun _ => 0)))] H locs := hw
  refine z_putF cx hw 0 9 rfl rfl inlX6 tyX6_ok nmX6 (by decide) wd_77 rfl hin rfl rfl rfl (Nat.le_of_ble_eq_true rfl) dX6_init_66 (fun H locs hw => ?_)
  have hw : ZW E A s [(h0, ob 6 [.ref q7, .ref q16, .int (nI 0), .int (nI 0), .ref q24, .ref q32, .ref q40, .ref q48, .ref q56, .ref q64, .null, .null]), (q7, ia E 97 (nA (fun _ => 0))), (q16, ia E 485 (nA (fun _ => 0))), (q24, ia E 24 (nA (fun _ => 0))), (q32, ia E 24 (nA (fun _ => 0))), (q40, ia E 48 (nA (fun _ => 0))), (q48, ia E 48 (nA (fun _ => 0))), (q56, ia E 24 (nA (fun _ => 0))), (q64, ia E 24 (nA (fun _ => 0)))] H locs := hw
  refine lv_aload_n hx hb dX6_init_69 rfl (lv_at hl 0 rfl) ?_
  refine lv_bipush (v := nI 24) hx hb dX6_init_70 (by decide) ?_
  refine z_newa (atype := .boolean) (a0 := (24, .inl (fun _ => bI false))) (k := 1) cx hw 24 rfl (by decide) rfl rfl (fun _ h => by cases h) (fun _ => rfl) (by decide) wd_78 (Nat.le_of_ble_eq_true rfl) (Nat.le_of_ble_eq_true rfl) dX6_init_72 (fun q72 H hw => ?_)
  refine W.widen (k := 9) (n := 798) (Nat.le_of_ble_eq_true rfl) (Nat.le_of_ble_eq_true rfl) ?_
  have hw : ZW E A s [(h0, ob 6 [.ref q7, .ref q16, .int (nI 0), .int (nI 0), .ref q24, .ref q32, .ref q40, .ref q48, .ref q56, .ref q64, .null, .null]), (q7, ia E 97 (nA (fun _ => 0))), (q16, ia E 485 (nA (fun _ => 0))), (q24, ia E 24 (nA (fun _ => 0))), (q32, ia E 24 (nA (fun _ => 0))), (q40, ia E 48 (nA (fun _ => 0))), (q48, ia E 48 (nA (fun _ => 0))), (q56, ia E 24 (nA (fun _ => 0))), (q64, ia E 24 (nA (fun _ => 0))), (q72, ba E 24 (fun _ => bI false))] H locs := hw
  refine z_putF cx hw 0 10 rfl rfl inlX6 tyX6_ok nmX6 (by decide) wd_79 rfl hin rfl rfl rfl (Nat.le_of_ble_eq_true rfl) dX6_init_74 (fun H locs hw => ?_)
  have hw : ZW E A s [(h0, ob 6 [.ref q7, .ref q16, .int (nI 0), .int (nI 0), .ref q24, .ref q32, .ref q40, .ref q48, .ref q56, .ref q64, .ref q72, .null]), (q7, ia E 97 (nA (fun _ => 0))), (q16, ia E 485 (nA (fun _ => 0))), (q24, ia E 24 (nA (fun _ => 0))), (q32, ia E 24 (nA (fun _ => 0))), (q40, ia E 48 (nA (fun _ => 0))), (q48, ia E 48 (nA (fun _ => 0))), (q56, ia E 24 (nA (fun _ => 0))), (q64, ia E 24 (nA (fun _ => 0))), (q72, ba E 24 (fun _ => bI false))] H locs := hw
  refine lv_aload_n hx hb dX6_init_77 rfl (lv_at hl 0 rfl) ?_
  refine lv_bipush (v := nI 20) hx hb dX6_init_78 (by decide) ?_
  refine z_newa (atype := .int) (a0 := (20, .inl (nA (fun _ => 0)))) (k := 0) cx hw 20 rfl (by decide) rfl rfl (fun _ h => by cases h) (fun _ => rfl) (by decide) wd_35 (Nat.le_of_ble_eq_true rfl) (Nat.le_of_ble_eq_true rfl) dX6_init_80 (fun q80 H hw => ?_)
  refine W.widen (k := 10) (n := 818) (Nat.le_of_ble_eq_true rfl) (Nat.le_of_ble_eq_true rfl) ?_
  have hw : ZW E A s [(h0, ob 6 [.ref q7, .ref q16, .int (nI 0), .int (nI 0), .ref q24, .ref q32, .ref q40, .ref q48, .ref q56, .ref q64, .ref q72, .null]), (q7, ia E 97 (nA (fun _ => 0))), (q16, ia E 485 (nA (fun _ => 0))), (q24, ia E 24 (nA (fun _ => 0))), (q32, ia E 24 (nA (fun _ => 0))), (q40, ia E 48 (nA (fun _ => 0))), (q48, ia E 48 (nA (fun _ => 0))), (q56, ia E 24 (nA (fun _ => 0))), (q64, ia E 24 (nA (fun _ => 0))), (q72, ba E 24 (fun _ => bI false)), (q80, ia E 20 (nA (fun _ => 0)))] H locs := hw
  refine z_putF cx hw 0 11 rfl rfl inlX6 tyX6_ok nmX6 (by decide) wd_80 rfl hin rfl rfl rfl (Nat.le_of_ble_eq_true rfl) dX6_init_82 (fun H locs hw => ?_)
  have hw : ZW E A s [(h0, ob 6 [.ref q7, .ref q16, .int (nI 0), .int (nI 0), .ref q24, .ref q32, .ref q40, .ref q48, .ref q56, .ref q64, .ref q72, .ref q80]), (q7, ia E 97 (nA (fun _ => 0))), (q16, ia E 485 (nA (fun _ => 0))), (q24, ia E 24 (nA (fun _ => 0))), (q32, ia E 24 (nA (fun _ => 0))), (q40, ia E 48 (nA (fun _ => 0))), (q48, ia E 48 (nA (fun _ => 0))), (q56, ia E 24 (nA (fun _ => 0))), (q64, ia E 24 (nA (fun _ => 0))), (q72, ba E 24 (fun _ => bI false)), (q80, ia E 20 (nA (fun _ => 0)))] H locs := hw
  have e_r85_0 : (fun _ => bI false) = (bA (fun _ => false)) := by rfl
  exact ret (q7, q16, q24, q32, q40, q48, q56, q64, q72, q80) 85 ls H locs dX6_init_85 (trivial) ((hw).cast (zc rfl (zc rfl (zc rfl (zc rfl (zc rfl (zc rfl (zc rfl (zc rfl (zc rfl (zc (congrArg (fun z => ((q72, ba E 24 z) : Nat × va_E)) e_r85_0) rfl)))))))))))

