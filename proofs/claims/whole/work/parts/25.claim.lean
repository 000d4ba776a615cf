/-! THE CLAIM OUT OF ONE WALK OF THE LAW'S BODY. Your part is whole_start (and what it stands on); all else here is the same for every law, but numbers. -/
def R_law : String := "DieStudyLaw"
def lw_P (b : Addr) (xs : List Int32) (args : Array Value) (s : State) : Prop := args = #[.ref b] ∧ s.IntsAt b xs ∧ xs.length ≤ 2560 ∧ (Jvm.Cond.and given_1 narrow_1).before args s = true
/-- what a walk over the start with the record d0 says of its end, said of the start itself -/
theorem lw_closed {s t : State} {o : Outcome} {d0 : Drawn} {L : List Loc} {k n : Nat} (hd0 : s.drawn.sameBut d0 lw_cs) (hv : ∃ v, o = .returned v) (hW : (s.setDrawn d0).WarmedH t.vm) (hs : (s.setDrawn d0).sameButNew ({ t with vm := s.vm } : State) L k n) : State.butDraws s t lw_cs (fun t1 => Framed s o t1 L k n) := by
  have h2 : t.drawn = d0 := congrArg State.drawn hs.1
  refine ⟨⟨hv, hW, State.sameButNew.setDrawn hs s.drawn⟩, ?_, by decide⟩
  rw [h2]
  exact hd0
def lw_Q (_ : Array Value) (s : State) (o : Outcome) (t : State) : Prop := o = .returned (some (.int 1)) ∧ State.butDraws s t lw_cs (fun t1 => Framed s o t1 [] 600000 7302250)
def lw_Z (below : List Frame) (a : Array Value) (s : State) : State → Prop := fun t => ∃ o, t.status = .running ∧ Ended t below o ∧ lw_Q a s o t
/-- the law's own end, with 1 on the stack, nothing written that was there before, its room as the claim has it; d0: the record of draws at this point (at the entry s.drawn: begin with 'refine W.base ?_' and 'have hd0 := Drawn.sameBut.refl s.drawn lw_cs') -/
theorem lw_ret {p : Program} {l : Launch} {e : Env} {s : State} {m : MethodId} {below : List Frame} {meth : Method} {c : Code} {b : Nat} {d0 : Drawn} (hd0 : s.drawn.sameBut d0 lw_cs) (hx : p.tables.exec = Jvm.exec) (hb : c.code = code) (hr : meth.sig.returnType = ret) (hlocks : meth.locks = false) {pc : Nat} {H : Heap} {ls : Array Slot} (hdg : decode code pc = .ok (.ireturn, 1)) : W p l e room_1 (s.setDrawn d0) m #[Value.ref b] below meth c H [] 600000 7302250 (lw_Z below #[Value.ref b] s) (F0 m pc ls [.int 1]) := by
  intro T hT X
  obtain ⟨fs, hret, hrun, hended, hW, hframe⟩ := X.leave (v := some (.int 1)) (hlocks := hlocks) (fun h => by rw [hr] at h; cases h)
  have hmeth' : T.vm.method? m = some meth := X.method'
  refine ⟨T.setFrames fs, ?_, .returned (some (.int 1)), hrun, hended, rfl, lw_closed hd0 ⟨_, rfl⟩ hW hframe⟩
  jvm_step X.here [X.here.top, hx, hb, hdg, hmeth', hr, ret, narrow_b1]
  (try refine ⟨rfl, ?_⟩); (try refine ⟨rfl, ?_⟩)
  first | (intro acts; rw [hret _ acts rfl rfl rfl]) | rw [hret _ _ rfl rfl rfl]
  exact Steps.refl _
/-- what holds at the law's entry: the machine, the code, the tables' words (any of lw_tbl by 'hts w (by decide +kernel)'), the script of L ints xs at the cell b, what the Statement gives of the start (any of its parts by flat_of_before) -/
def lw_At (p : Program) (s : State) (m : MethodId) (meth : Method) (c : Code) (b L : Nat) (xs : Nat → Int32) : Prop :=
  p.tables.exec = Jvm.exec ∧ c.code = code ∧ meth.sig.returnType = ret ∧ c.maxLocals = 4 ∧ s.vm.findClass R_law = some m.cls ∧ (∀ w ∈ lw_tbl, w.before #[Value.ref b] s = true) ∧ va_X b L xs s s.heap ∧ b < s.heap.size ∧ meth.locks = false ∧ (Jvm.Cond.and given_1 narrow_1).before #[Value.ref b] s = true

set_option maxHeartbeats 4000000 in
set_option maxRecDepth 100000 in
theorem whole_start {p : Program} {e : Env} {s : State} {m : MethodId} {below : List Frame} {meth : Method} {c : Code} (l : Launch) (hflags : l.flags = flags0) {b L : Nat} {xs : Nat → Int32} (hL : L ≤ 2560) (C0 : lw_At p s m meth c b L xs) : W p l e room_1 s m #[Value.ref b] below meth c s.heap [] 0 0 (lw_Z below #[Value.ref b] s) (entryFrame m ([Value.ref b] : List Value).toArray 4) := by
  obtain ⟨hx, hb, hr, hml, hown, hts0, hX, hbl, hlocks, hgv⟩ := id C0
  have hts : ∀ w ∈ wsL_law, w.before #[Value.ref b] s = true := fun w hw => hts0 w (wsL_law_in w hw)
  have hN : NW s := ⟨fun q hq => va_Nw.of rfl (hts0 _ (nestF_in q hq)), fun q hq => va_Nw.of rfl (hts0 _ (nestM_in q hq)), by have h_ := hts0 _ zAOA_in; unfold zAOA; simpa [Cond.before, Cond.holds, Cond.value] using h_⟩
  obtain ⟨c0, iS0, hKn0⟩ := u_known (C := RX0) (T := TX0) (N := 3) (n := 3) hts inlX0 (hts _ wd_29)
  obtain ⟨c1, iS1, hKn1⟩ := u_known (C := RX1) (T := TX1) (N := 5) (n := 5) hts inlX1 (hts _ wd_21)
  obtain ⟨c2, iS2, hKn2⟩ := u_known (C := RX2) (T := TX2) (N := 4) (n := 4) hts inlX2 (hts _ wd_17)
  obtain ⟨c3, iS3, hKn3⟩ := u_known (C := RX3) (T := TX3) (N := 3) (n := 3) hts inlX3 (hts _ wd_25)
  obtain ⟨c4, iS4, hKn4⟩ := u_known (C := RX4) (T := TX4) (N := 2) (n := 2) hts inlX4 (hts _ wd_13)
  obtain ⟨c5, iS5, hKn5⟩ := u_known (C := RX5) (T := TX5) (N := 5) (n := 5) hts inlX5 (hts _ wd_1)
  obtain ⟨c6, iS6, hKn6⟩ := u_known (C := RX6) (T := TX6) (N := 12) (n := 12) hts inlX6 (hts _ wd_4)
  obtain ⟨dC, dI, hKc⟩ : ∃ (dC : Nat → ClassId) (dI : Nat → Nat → Nat), ∀ (k : Nat) (q : vw_C), vwCl[k]? = some q → u_Kn s q.1 q.2.1 q.2.2 (dC k) (dI k) := by
    refine ⟨fun k => match k with | 0 => c0 | 1 => c1 | 2 => c2 | 3 => c3 | 4 => c4 | 5 => c5 | _ => c6, fun k => match k with | 0 => iS0 | 1 => iS1 | 2 => iS2 | 3 => iS3 | 4 => iS4 | 5 => iS5 | _ => iS6, ?_⟩
    intro k q hq
    match k, hq with
    | 0, hq => cases hq; exact hKn0
    | 1, hq => cases hq; exact hKn1
    | 2, hq => cases hq; exact hKn2
    | 3, hq => cases hq; exact hKn3
    | 4, hq => cases hq; exact hKn4
    | 5, hq => cases hq; exact hKn5
    | 6, hq => cases hq; exact hKn6
    | k + 7, hq => simp [vwCl] at hq
  obtain ⟨cI, kI, oI, a1, a2, a3⟩ := Cond.arrayClass_spec (hts _ wd_35)
  obtain ⟨cZ, kZ, oZ, b1, b2, b3⟩ := Cond.arrayClass_spec (hts _ wd_78)
  obtain ⟨oA, cA, kA, g1, g2, g3, g4, g5⟩ := zAOA.spec hN.2.2
  obtain ⟨E, hE⟩ : ∃ E : ZE, E = ((dC, dI), cI, cZ, cA) := ⟨_, rfl⟩
  have hK : va_K E.1 vwCl (ZT E) s := by
    subst hE
    refine ⟨hKc, fun k q hq => ?_⟩
    match k, hq with
    | 0, hq => cases hq; exact ⟨fun N9 z9 => ⟨(fun q hq => by cases hq), kI, a2, oI, a3⟩, a1⟩
    | 1, hq => cases hq; exact ⟨fun N9 z9 => ⟨(fun q hq => by cases hq), kZ, b2, oZ, b3⟩, b1⟩
    | 2, hq => cases hq; exact ⟨fun N9 z9 => ⟨(fun q hq => by cases hq), kA, g3, oA, g4⟩, g5⟩
  obtain ⟨A, eA⟩ : ∃ A : Nat → Prop, A = fun q => s.heap.size ≤ q := ⟨_, rfl⟩
  have hA : ∀ q : Nat, s.heap.size ≤ q → A q := by subst eA; exact fun _ h => h
  have hbA : ¬ A b := by subst eA; exact Nat.not_le.mpr hbl
  have hAb : ∀ q, A q → s.heap.size ≤ q := by subst eA; exact fun _ h => h
  have cx : Cx p s m #[Value.ref b] meth c cL_law 4 RL E A := ⟨hx, hb, hml, hown, hts, hK, hN, hA, hlocks⟩
  have hw : ZW E A s [] s.heap [] := ⟨fun k q h => by simp at h, ⟨fun i j p q h => by simp at h, fun k q h => by simp at h⟩, va_S.rf⟩
  have hl := lv_entry ([.ref b]) (n := 4) (Nat.le_of_ble_eq_true rfl)
  rw [lg_entry_eq]
  generalize (lg_sl ([.ref b]) ++ List.replicate (4 - (lg_sl ([.ref b])).length) Slot.unset).toArray = ls at hl ⊢
  have hl : lv_has ls 4 [(0, .ref b)] := hl
  have hend : ∀ (H : Heap) (locs : List Loc) (ls : Array Slot), va_S A s.heap H locs → W p l e room_1 s m #[Value.ref b] below meth c H locs 34 1775 (lw_Z below #[Value.ref b] s) (F0 m 752 ls []) := by
    intro H locs ls hS
    refine lv_iconst (v := 1) hx hb dL_law_752 (by decide) ?_
    refine va_forget (fun q hq => hAb _ (hS.2.2 q hq)) ?_
    refine W.widen (k := 600000) (n := 7302250) (by decide) (by decide) ?_
    refine W.base ?_
    exact lw_ret (Drawn.sameBut.refl s.drawn lw_cs) hx hb hr hlocks dL_law_753
  refine z_new cx hw 5 rfl inlX5 tyX5_ok wd_0 wd_1 wd_2 [.null, .null, .null, .null, .null] (fun j hj => by rcases (show j = 0 ∨ j = 1 ∨ j = 2 ∨ j = 3 ∨ j = 4 by omega) with rfl | rfl | rfl | rfl | rfl <;> rfl) (Nat.le_of_ble_eq_true rfl) (Nat.le_of_ble_eq_true rfl) dL_law_0 (fun q0 H hw => ?_)
  refine W.widen (k := 1) (n := 5) (Nat.le_of_ble_eq_true rfl) (Nat.le_of_ble_eq_true rfl) ?_
  have hw : ZW E A s [(q0, ob 5 [.null, .null, .null, .null, .null])] H [] := hw
  refine lv_dup hx hb dL_law_3 rfl ?_
  refine z_rv (wr := []) cx hw [0] [] rfl rfl (by decide) (by decide) (z_runI (As := []) (rest := [.ref q0]) cx hw [0] rfl rfl (c_X5_init l E q0  H.size) mf_X5_init wd_6 ⟨Nat.le_of_ble_eq_true rfl, Nat.le_of_ble_eq_true rfl⟩ hl (Nat.le_of_ble_eq_true rfl) dL_law_4 ⟨Nat.le_of_ble_eq_true rfl, Nat.le_of_ble_eq_true rfl⟩) (fun u H locs hp hw => ?_)
  obtain ⟨hS, hH, hC, hG, hR, q, qc, qn, qp, qd, d0, d1, ql, l0, l1, qg, g0, g1, qC, qo, qe, qw⟩ := u
  refine W.widen (k := 23) (n := 945) (Nat.le_of_ble_eq_true rfl) (Nat.le_of_ble_eq_true rfl) ?_
  have hw : ZW E A s [(q0, ob 5 [.ref hS, .ref hH, .ref hC, .ref hG, .ref hR]), (hS, ob 4 [.ref q, .int (nI 0)]), (q, ia E 96 (nA (fun _ => 0))), (hH, ob 2 [.ref qc, .ref qn, .int (nI 0), .int (nI 0)]), (qc, ia E 480 (nA (fun _ => 0))), (qn, ia E 5 (nA (fun _ => 0))), (hC, ob 1 [.ref qp, .ref qd, .ref ql, .ref qg, .int (nI 0)]), (qp, ia E 100 (nA (fun _ => 0))), (qd, ra E d0 d1), (d0, ia E 24 (nA (fun _ => 0))), (d1, ia E 24 (nA (fun _ => 0))), (ql, ra E l0 l1), (l0, ia E 24 (nA (fun _ => 0))), (l1, ia E 24 (nA (fun _ => 0))), (qg, ra E g0 g1), (g0, ia E 24 (nA (fun _ => 0))), (g1, ia E 24 (nA (fun _ => 0))), (hG, ob 3 [.ref qC, .int (nI 0), .int (nI 0)]), (qC, ia E 20 (nA (fun _ => 0))), (hR, ob 0 [.ref qo, .ref qe, .ref qw]), (qo, ia E 24 (nA (fun _ => 0))), (qe, ia E 24 (nA (fun _ => 0))), (qw, ia E 24 (nA (fun _ => 0)))] H locs := hw
  refine lv_astore_n (lv' := [(1, .ref q0), (0, .ref b)]) hx hb dL_law_7 rfl hl (by decide) rfl (fun ls hl => ?_)
  refine z_new cx hw 6 rfl inlX6 tyX6_ok wd_3 wd_4 wd_5 [.null, .null, .int (nI 0), .int (nI 0), .null, .null, .null, .null, .null, .null, .null, .null] (fun j hj => by rcases (show j = 0 ∨ j = 1 ∨ j = 2 ∨ j = 3 ∨ j = 4 ∨ j = 5 ∨ j = 6 ∨ j = 7 ∨ j = 8 ∨ j = 9 ∨ j = 10 ∨ j = 11 by omega) with rfl | rfl | rfl | rfl | rfl | rfl | rfl | rfl | rfl | rfl | rfl | rfl <;> rfl) (Nat.le_of_ble_eq_true rfl) (Nat.le_of_ble_eq_true rfl) dL_law_8 (fun q8 H hw => ?_)
  refine W.widen (k := 24) (n := 957) (Nat.le_of_ble_eq_true rfl) (Nat.le_of_ble_eq_true rfl) ?_
  have hw : ZW E A s [(q0, ob 5 [.ref hS, .ref hH, .ref hC, .ref hG, .ref hR]), (hS, ob 4 [.ref q, .int (nI 0)]), (q, ia E 96 (nA (fun _ => 0))), (hH, ob 2 [.ref qc, .ref qn, .int (nI 0), .int (nI 0)]), (qc, ia E 480 (nA (fun _ => 0))), (qn, ia E 5 (nA (fun _ => 0))), (hC, ob 1 [.ref qp, .ref qd, .ref ql, .ref qg, .int (nI 0)]), (qp, ia E 100 (nA (fun _ => 0))), (qd, ra E d0 d1), (d0, ia E 24 (nA (fun _ => 0))), (d1, ia E 24 (nA (fun _ => 0))), (ql, ra E l0 l1), (l0, ia E 24 (nA (fun _ => 0))), (l1, ia E 24 (nA (fun _ => 0))), (qg, ra E g0 g1), (g0, ia E 24 (nA (fun _ => 0))), (g1, ia E 24 (nA (fun _ => 0))), (hG, ob 3 [.ref qC, .int (nI 0), .int (nI 0)]), (qC, ia E 20 (nA (fun _ => 0))), (hR, ob 0 [.ref qo, .ref qe, .ref qw]), (qo, ia E 24 (nA (fun _ => 0))), (qe, ia E 24 (nA (fun _ => 0))), (qw, ia E 24 (nA (fun _ => 0))), (q8, ob 6 [.null, .null, .int (nI 0), .int (nI 0), .null, .null, .null, .null, .null, .null, .null, .null])] H locs := hw
  refine lv_dup hx hb dL_law_11 rfl ?_
  refine z_rv (wr := [(q0, ob 5 [.ref hS, .ref hH, .ref hC, .ref hG, .ref hR]), (hS, ob 4 [.ref q, .int (nI 0)]), (q, ia E 96 (nA (fun _ => 0))), (hH, ob 2 [.ref qc, .ref qn, .int (nI 0), .int (nI 0)]), (qc, ia E 480 (nA (fun _ => 0))), (qn, ia E 5 (nA (fun _ => 0))), (hC, ob 1 [.ref qp, .ref qd, .ref ql, .ref qg, .int (nI 0)]), (qp, ia E 100 (nA (fun _ => 0))), (qd, ra E d0 d1), (d0, ia E 24 (nA (fun _ => 0))), (d1, ia E 24 (nA (fun _ => 0))), (ql, ra E l0 l1), (l0, ia E 24 (nA (fun _ => 0))), (l1, ia E 24 (nA (fun _ => 0))), (qg, ra E g0 g1), (g0, ia E 24 (nA (fun _ => 0))), (g1, ia E 24 (nA (fun _ => 0))), (hG, ob 3 [.ref qC, .int (nI 0), .int (nI 0)]), (qC, ia E 20 (nA (fun _ => 0))), (hR, ob 0 [.ref qo, .ref qe, .ref qw]), (qo, ia E 24 (nA (fun _ => 0))), (qe, ia E 24 (nA (fun _ => 0))), (qw, ia E 24 (nA (fun _ => 0)))]) cx hw [23] [0, 1, 2, 3, 4, 5, 6, 7, 8, 9, 10, 11, 12, 13, 14, 15, 16, 17, 18, 19, 20, 21, 22] rfl rfl (by decide) (by decide) (z_runI (As := []) (rest := [.ref q8]) cx hw [23] rfl rfl (c_X6_init l E q8  H.size) mf_X6_init wd_66 ⟨Nat.le_of_ble_eq_true rfl, Nat.le_of_ble_eq_true rfl⟩ hl (Nat.le_of_ble_eq_true rfl) dL_law_12 ⟨Nat.le_of_ble_eq_true rfl, Nat.le_of_ble_eq_true rfl⟩) (fun u H locs hp hw => ?_)
  obtain ⟨aN, aH, aO, aR, aL, aG, aT, aE, aB, aV⟩ := u
  refine W.widen (k := 34) (n := 1775) (Nat.le_of_ble_eq_true rfl) (Nat.le_of_ble_eq_true rfl) ?_
  have hw : ZW E A s [(q0, ob 5 [.ref hS, .ref hH, .ref hC, .ref hG, .ref hR]), (hS, ob 4 [.ref q, .int (nI 0)]), (q, ia E 96 (nA (fun _ => 0))), (hH, ob 2 [.ref qc, .ref qn, .int (nI 0), .int (nI 0)]), (qc, ia E 480 (nA (fun _ => 0))), (qn, ia E 5 (nA (fun _ => 0))), (hC, ob 1 [.ref qp, .ref qd, .ref ql, .ref qg, .int (nI 0)]), (qp, ia E 100 (nA (fun _ => 0))), (qd, ra E d0 d1), (d0, ia E 24 (nA (fun _ => 0))), (d1, ia E 24 (nA (fun _ => 0))), (ql, ra E l0 l1), (l0, ia E 24 (nA (fun _ => 0))), (l1, ia E 24 (nA (fun _ => 0))), (qg, ra E g0 g1), (g0, ia E 24 (nA (fun _ => 0))), (g1, ia E 24 (nA (fun _ => 0))), (hG, ob 3 [.ref qC, .int (nI 0), .int (nI 0)]), (qC, ia E 20 (nA (fun _ => 0))), (hR, ob 0 [.ref qo, .ref qe, .ref qw]), (qo, ia E 24 (nA (fun _ => 0))), (qe, ia E 24 (nA (fun _ => 0))), (qw, ia E 24 (nA (fun _ => 0))), (q8, ob 6 [.ref aN, .ref aH, .int (nI 0), .int (nI 0), .ref aO, .ref aR, .ref aL, .ref aG, .ref aT, .ref aE, .ref aB, .ref aV]), (aN, ia E 97 (nA (fun _ => 0))), (aH, ia E 485 (nA (fun _ => 0))), (aO, ia E 24 (nA (fun _ => 0))), (aR, ia E 24 (nA (fun _ => 0))), (aL, ia E 48 (nA (fun _ => 0))), (aG, ia E 48 (nA (fun _ => 0))), (aT, ia E 24 (nA (fun _ => 0))), (aE, ia E 24 (nA (fun _ => 0))), (aB, ba E 24 (bA (fun _ => false))), (aV, ia E 20 (nA (fun _ => 0)))] H locs := hw
  refine lv_astore_n (lv' := [(2, .ref q8), (1, .ref q0), (0, .ref b)]) hx hb dL_law_15 rfl hl (by decide) rfl (fun ls hl => ?_)
  refine lv_iconst (v := nI 0) hx hb dL_law_16 (by decide) ?_
  refine lv_istore_n (lv' := [(3, .int (nI 0)), (2, .ref q8), (1, .ref q0), (0, .ref b)]) hx hb dL_law_17 rfl hl (by decide) rfl (fun ls hl => ?_)
  exact law_loop cx hX hbl hbA hL hend (L + 1) 0 (Nat.zero_le _) (by omega) _ _ ls q0 hS hH hC hG hR q qc qn qp qd d0 d1 ql l0 l1 qg g0 g1 qC qo qe qw q8 aN aH aO aR aL aG aT aE aB aV (fun _ => 0) 0 (fun _ => 0) (fun _ => 0) 0 0 (nA (fun _ => 0)) (fun _ => 0) (fun _ => 0) (fun _ => 0) (fun _ => 0) (fun _ => 0) (fun _ => 0) 0 (nA (fun _ => 0)) 0 (nI 0) (fun _ => 0) (fun _ => 0) (nA (fun _ => 0)) (fun _ => 0) (fun _ => 0) 0 0 (fun _ => 0) (fun _ => 0) (fun _ => 0) (fun _ => 0) (fun _ => 0) (fun _ => 0) (fun _ => false) (fun _ => 0) rel_0 ⟨(fun _ => (show 0 < 10 by decide) : Bd (fun _ => 0)), (fun _ => (show 0 < 10 by decide) : Bd (fun _ => 0)), (fun _ => (show 0 < 10 by decide) : Bd (fun _ => 0)), (fun _ => (show 0 < 10 by decide) : Bd (fun _ => 0)), (fun _ => (show 0 < 10 by decide) : Bd (fun _ => 0)), (fun _ => (show 0 < 10 by decide) : Bd (fun _ => 0))⟩ ⟨(fun _ => (show 0 < 10 by decide) : Bd (fun _ => 0)), (fun _ => (show 0 < 10 by decide) : Bd (fun _ => 0)), (fun _ => (show 0 < 10 by decide) : Bd (fun _ => 0)), (fun _ => (show 0 < 10 by decide) : Bd (fun _ => 0))⟩ (hw) (lv_add (lv_add (lv_add (lv_add (lv_nil hl) (lv_at hl 0 rfl)) (lv_at hl 1 rfl)) (lv_at hl 2 rfl)) (lv_at hl 3 rfl))
-- ===== YOUR PART ENDS =====
set_option maxHeartbeats 4000000 in
theorem lw_walk (l : Launch) (hflags : l.flags = flags0) (b : Addr) (xs : List Int32) : MetFree l x (headSpec (Jvm.Cond.code x code maxLocals ret :: tables_1) room_1) (lw_P b xs) (fun _ _ _ _ _ => True) lw_Q := by
  refine MetFree.of_bodyS (code := code) (maxLocals := maxLocals) (ret := ret) (by decide) ?_ ?_
  · intro args s m h hn
    obtain ⟨meth, c, h1, h2, h3, h4, h5, h6, -, -⟩ := Cond.code_spec hn (atoms_spec (ws := Jvm.Cond.code x code maxLocals ret :: tables_1) h _ List.mem_cons_self)
    exact ⟨meth, c, h1, h2, h3, h4, h5, h6⟩
  · intro p e s m args below meth c s₁ B hml0 hP _
    obtain ⟨rfl, hx, hbd, hgv⟩ := hP
    obtain ⟨scr, harrAt, hlist, hof, hsmall⟩ := hx
    obtain ⟨hcb, hkn, -, -⟩ := State.arrayAt?_spec harrAt
    have hown : s.vm.findClass R_law = some m.cls := findClass_of_methodNamed B.named
    have hts0 : ∀ c ∈ (Jvm.Cond.code x code maxLocals ret :: tables_1), c.before #[Value.ref b] s = true := atoms_spec (ws := Jvm.Cond.code x code maxLocals ret :: tables_1) B.pre
    have hts : ∀ w ∈ lw_tbl, w.before #[Value.ref b] s = true := k2_hts_sels lw_privs (fun w hw => hts0 w (List.mem_cons_of_mem _ hw)) lw_privs_ok
    have hml : c.maxLocals = 4 := B.maxLocals_eq (hts0 _ List.mem_cons_self)
    have X₀ : Stand p l e room_1 s m #[Value.ref b] below meth c s₁ [] 0 0 := Stand.of_body B
    have hh0 : s₁.heap = s.heap := by rw [B.state]; rfl
    have hsz : scr.slots.size = xs.length := by rw [← Array.length_toList, hlist, List.length_map]
    have hval : ∀ j : Nat, j < xs.length → scr.slots[j]? = some (.int (xs.getD j 0)) := fun j hj => by
      rw [← Array.getElem?_toList, hlist]
      simp [hj]
    have hbl : b < s.heap.size := (Array.getElem?_eq_some_iff.mp hcb).1
    have hX : va_X b xs.length (fun j => xs.getD j 0) s s.heap := ⟨scr, hcb, hof, hkn, hsz, hval⟩
    have K : W p l e room_1 s m #[Value.ref b] below meth c s₁.heap [] 0 0 (lw_Z below #[Value.ref b] s) (entryFrame m ([Value.ref b] : List Value).toArray 4) := by
      rw [hh0]
      exact whole_start l hflags hbd ⟨B.exec, B.bytes, B.returns, hml, hown, hts, hX, hbl, B.notSynchronized, hgv⟩
    obtain ⟨t, a1, o, b1, b2, b3⟩ := K s₁ rfl X₀
    exact ⟨t, o, a1, b1, b2, b3⟩
theorem lw_pre_spec {args : Array Value} {s : State} (h : (Jvm.Cond.and given_1 narrow_1).before args s = true) (hr : rest_1_c.before args s = true) : ∃ (b : Addr) (xs : List Int32), lw_P b xs args s := by
  have hs := flat_of_before _ h
  have hq := flat_of_before _ hr
  have hc : (Cond.count 1).before args s = true := hs _ (by decide +kernel)
  have harr : (Cond.arrayOf (.arg 0) .int).before args s = true := hs _ (by decide +kernel)
  have hle : (Cond.le (.length (.arg 0)) (.int 2560)).before args s = true := hs _ (by decide +kernel)
  have hlen : (Cond.isInt (.length (.arg 0))).before args s = true := hq _ (by decide +kernel)
  have hall : (Cond.all (.arg 0) (.isInt (.elem (.arg 0) (.index 0)))).before args s = true := hq _ (by decide +kernel)
  obtain ⟨b, xs, hb, hx⟩ := State.ints_of_pre rfl harr hlen hall
  have hsm : xs.length < 2 ^ 31 := hx.choose_spec.2.2.2
  have hev : (Term.length (.arg 0)).eval args s none [] s = some (.int xs.length.toInt32) := hx.length_eval hb
  have hv := Cond.le_ints hev (show (Term.int 2560).eval args s none [] s = some (.int 2560) from rfl)
  have hd : xs.length.toInt32 ≤ 2560 := by
    simpa [Cond.before, Cond.holds, hv] using hle
  have hN : xs.length ≤ 2560 := (Int32.ofNat_le_ofNat hsm (by decide)).mp (show Int32.ofNat xs.length ≤ Int32.ofNat 2560 from hd)
  exact ⟨b, xs, Cond.one_arg hc (show args[0]? = some (.ref b) from hb), hx, hN, h⟩
theorem lw_comes (l : Launch) (hflags : l.flags = flags0) : Comes l x (Jvm.Cond.code x code maxLocals ret :: tables_1) room_1 (fun tb e args s => Calls_1 tb e args s ∧ rest_1 tb e args s ∧ Pre_1 tb e args s)
    (fun _ _ args s o t => lw_Q args s o t) := by
  intro p e ha hc hk s m args below hf hfit hheap happ hpre
  obtain ⟨b, xs, hP⟩ := lw_pre_spec hpre.2.2 hpre.2.1
  obtain ⟨k, o, h1, h2, h3, hQ⟩ := lw_walk l hflags b xs p e ha hc hk s m args below hf ((Spec.applies_iff_loose hf).mp happ).1 hP trivial
  exact ⟨k, o, h1, h2, h3, hQ⟩
theorem lw_frame {s t : State} {o : Outcome} {args : Array Value} (h : State.butDraws s t lw_cs (fun t1 => Framed s o t1 [] 600000 7302250)) :
    State.butDraws s t [Jvm.Choice.named "NaN.bits"] (fun t1 => Framed s o t1 (fieldLocs frame_1_writes args s ++ arrayLocs frame_1_arrays args s ++ staticLocs frame_1_statics s) 600000 7302250) := h
theorem lw_limb (L : Cond) (hL : ∀ (args : Array Value) (s t : State), L.after args s (.returned (some (.int 1))) t = true) :
    ArmFor flags0 classFile x code maxLocals ret World_1 tables_1 room_1 Calls_1 rest_1 Pre_1
      (fun tb e a s o t => postC L tb e a s o t ∧ State.butDraws s t [Jvm.Choice.named "NaN.bits"] (fun t1 => Framed s o t1 (fieldLocs frame_1_writes a s ++ arrayLocs frame_1_arrays a s ++ staticLocs frame_1_statics s) 600000 7302250)) := by
  intro l hflags _ _ p e ha hc hk s m args below hf hfit hheap happ hpre
  obtain ⟨k, o, h1, h2, h3, rfl, hF⟩ := lw_comes l hflags p e ha hc hk s m args below hf hfit hheap happ hpre
  exact ⟨k, _, h1, h2, h3, hL args s _, lw_frame hF⟩
theorem i_vc : Claimed_1_1 ∧ Claimed_1_2 := ⟨lw_limb limb_1_1 (fun args s t => by simp [limb_1_1, Cond.after, Cond.holds, Cond.value]), lw_limb limb_1_2 (fun args s t => Cond.after_iff.mpr (by
  first | (rw [show limb_1_2 = Cond.eq .result (.int 1) from rfl, Cond.eq_ints (x := 1) (y := 1) rfl rfl]; simp; done) | (simp [limb_1_2, Cond.value, Term.eval]; done)))⟩

