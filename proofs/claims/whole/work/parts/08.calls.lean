/-! ===== entries, calls ===== -/
theorem lv_argsE (av : List Value) {n : Nat} (h : (lg_sl av).length ≤ n) : ∃ ls : Array Slot, lv_has ls n (lv_args 0 av) ∧ ∀ m : MethodId, entryFrame m av.toArray n = F0 m 0 ls [] := ⟨_, lv_entry av h, fun m => lg_entry_eq m av n⟩
theorem z_mi {l : Launch} {y : MethodName} {b : ByteArray} {mL : Nat} {rm : Room} {E : ZE} {av : List Value} {w : va_W} {S : Type} {post : Int32 → S → Prop} {W1 : S → va_W} (hy : plainName y.cls = true) (hml : (lg_sl av).length ≤ mL)
    (body : ∀ (p : Program) (e : Env) (s : State) (m : MethodId) (args : Array Value) (below : List Frame) (meth : Method) (c : Code) (A : Nat → Prop) (Q : State → Prop) (ls : Array Slot), Cx p s m args meth c b mL y.cls E A → meth.name = y.name → ZW E A s w s.heap [] → lv_has ls mL (lv_args 0 av) →
      (∀ (v : Int32) (u : S) (pc : Nat) (ls : Array Slot) (H : Heap) (locs : List Loc), decode b pc = .ok (.ireturn, 1) → post v u → ZW E A s (W1 u) H locs → W p l e rm s m args below meth c H locs rm.cells rm.slots Q (F0 m pc ls [.int v])) →
      W p l e rm s m args below meth c s.heap [] 0 0 Q (F0 m 0 ls [])) : ZMi l y b mL (some .int) rm E av w post W1 := by
  intro sz
  refine Met.ofW (cc := b) (maxL := mL) (ret := some .int) hy rfl ?_
  intro p e s m args below meth c s₁ B hml' hv
  obtain ⟨rfl, hsz, hP, hK, hD0, hN⟩ := hv
  subst hsz
  have hts := atoms_spec (ws := Cond.code y b mL (some .int) :: wsL_law) B.pre
  have hlocks := B.notSynchronized
  obtain ⟨ls, hl, hE⟩ := lv_argsE av hml
  rw [hE m]
  exact body p e s m av.toArray below meth c (va_A w s.heap.size) _ ls ⟨B.exec, B.bytes, hml', findClass_of_methodNamed B.named, fun x hx => hts x (List.mem_cons_of_mem _ hx), hK, hN, fun q h => Or.inr h, hlocks⟩ (name_of_methodNamed B.named B.method).1 ⟨hP, hD0.self, va_S.rf⟩ hl
    (fun v u pc ls H locs hd hp hw => W.iret B.exec B.bytes B.returns (fun t ht hW => ⟨⟨_, u, rfl, hp, by rw [ht]; exact hw.1, va_K.moved hW.alike hK, hw.2.1⟩, hw.2.2.F ht⟩) hw.2.2.2.2 hd)
theorem z_mz {l : Launch} {y : MethodName} {b : ByteArray} {mL : Nat} {rm : Room} {E : ZE} {av : List Value} {w : va_W} {S : Type} {post : Int32 → S → Prop} {W1 : S → va_W} (hy : plainName y.cls = true) (hml : (lg_sl av).length ≤ mL)
    (body : ∀ (p : Program) (e : Env) (s : State) (m : MethodId) (args : Array Value) (below : List Frame) (meth : Method) (c : Code) (A : Nat → Prop) (Q : State → Prop) (ls : Array Slot), Cx p s m args meth c b mL y.cls E A → meth.name = y.name → ZW E A s w s.heap [] → lv_has ls mL (lv_args 0 av) →
      (∀ (v : Bool) (u : S) (pc : Nat) (ls : Array Slot) (H : Heap) (locs : List Loc), decode b pc = .ok (.ireturn, 1) → post (bI v) u → ZW E A s (W1 u) H locs → W p l e rm s m args below meth c H locs rm.cells rm.slots Q (F0 m pc ls [.int (bI v)])) →
      W p l e rm s m args below meth c s.heap [] 0 0 Q (F0 m 0 ls [])) : ZMi l y b mL (some .boolean) rm E av w post W1 := by
  intro sz
  refine Met.ofW (cc := b) (maxL := mL) (ret := some .boolean) hy rfl ?_
  intro p e s m args below meth c s₁ B hml' hv
  obtain ⟨rfl, hsz, hP, hK, hD0, hN⟩ := hv
  subst hsz
  have hts := atoms_spec (ws := Cond.code y b mL (some .boolean) :: wsL_law) B.pre
  have hlocks := B.notSynchronized
  obtain ⟨ls, hl, hE⟩ := lv_argsE av hml
  rw [hE m]
  exact body p e s m av.toArray below meth c (va_A w s.heap.size) _ ls ⟨B.exec, B.bytes, hml', findClass_of_methodNamed B.named, fun x hx => hts x (List.mem_cons_of_mem _ hx), hK, hN, fun q h => Or.inr h, hlocks⟩ (name_of_methodNamed B.named B.method).1 ⟨hP, hD0.self, va_S.rf⟩ hl
    (fun v u pc ls H locs hd hp hw => W.zret B.exec B.bytes B.returns (by cases v <;> rfl) (fun t ht hW => ⟨⟨_, u, rfl, hp, by rw [ht]; exact hw.1, va_K.moved hW.alike hK, hw.2.1⟩, hw.2.2.F ht⟩) hw.2.2.2.2 hd)
theorem z_mv {l : Launch} {y : MethodName} {b : ByteArray} {mL : Nat} {rm : Room} {E : ZE} {av : List Value} {w : va_W} {S : Type} {post : S → Prop} {W1 : S → va_W} (hy : plainName y.cls = true) (hml : (lg_sl av).length ≤ mL)
    (body : ∀ (p : Program) (e : Env) (s : State) (m : MethodId) (args : Array Value) (below : List Frame) (meth : Method) (c : Code) (A : Nat → Prop) (Q : State → Prop) (ls : Array Slot), Cx p s m args meth c b mL y.cls E A → meth.name = y.name → ZW E A s w s.heap [] → lv_has ls mL (lv_args 0 av) →
      (∀ (u : S) (pc : Nat) (ls : Array Slot) (H : Heap) (locs : List Loc), decode b pc = .ok (.return_, 1) → post u → ZW E A s (W1 u) H locs → W p l e rm s m args below meth c H locs rm.cells rm.slots Q (F0 m pc ls [])) →
      W p l e rm s m args below meth c s.heap [] 0 0 Q (F0 m 0 ls [])) : ZMv l y b mL rm E av w post W1 := by
  intro sz
  refine Met.ofW (cc := b) (maxL := mL) (ret := none) hy rfl ?_
  intro p e s m args below meth c s₁ B hml' hv
  obtain ⟨rfl, hsz, hP, hK, hD0, hN⟩ := hv
  subst hsz
  have hts := atoms_spec (ws := Cond.code y b mL (none) :: wsL_law) B.pre
  have hlocks := B.notSynchronized
  obtain ⟨ls, hl, hE⟩ := lv_argsE av hml
  rw [hE m]
  exact body p e s m av.toArray below meth c (va_A w s.heap.size) _ ls ⟨B.exec, B.bytes, hml', findClass_of_methodNamed B.named, fun x hx => hts x (List.mem_cons_of_mem _ hx), hK, hN, fun q h => Or.inr h, hlocks⟩ (name_of_methodNamed B.named B.method).1 ⟨hP, hD0.self, va_S.rf⟩ hl
    (fun u pc ls H locs hd hp hw => W.vret B.exec B.bytes B.returns (fun t ht hW => ⟨⟨u, rfl, hp, by rw [ht]; exact hw.1, va_K.moved hW.alike hK, hw.2.1⟩, hw.2.2.F ht⟩) hw.2.2.2.2 hd)
section ZC
variable {p : Program} {l : Launch} {e : Env} {R : Room} {s : State} {m : MethodId} {args : Array Value} {below : List Frame} {meth : Method} {c : Code} {H : Heap} {locs : List Loc} {cells slots : Nat} {Q : State → Prop}
variable {cc : ByteArray} {pc nL : Nat} {ls : Array Slot} {rest : List Value} {own : String} {E : ZE} {A : Nat → Prop} {w : va_W} {a : Nat}
variable {y : MethodName} {b : ByteArray} {mL index : Nat} {rt : Option FieldType} {rm : Room} {wc wr : va_W} {As st0 : List Value} {Qc : Array Value → State → Outcome → State → Prop} {free : Addr → Prop}
/-- what the tables say of a method that is called -/
def MFv (y : MethodName) (b : ByteArray) (mL : Nat) (rt : Option FieldType) (C : String) (n : Nat) : Prop := Cond.code y b mL rt ∈ wsL_law ∧ Cond.initialized y.cls ∈ wsL_law ∧ (y.cls ≠ "java/lang/invoke/MethodHandle" ∧ y.cls ≠ "java/lang/invoke/VarHandle" ∧ (parseMethodDescriptor y.desc).map (fun d => d.parameters.length) = some n) ∧ Cond.instanceMethod y ∈ wsL_law ∧ Cond.selects C y y ∈ wsL_law
def MFs (y : MethodName) (b : ByteArray) (mL : Nat) (rt : Option FieldType) (n : Nat) : Prop := Cond.code y b mL rt ∈ wsL_law ∧ Cond.initialized y.cls ∈ wsL_law ∧ (y.cls ≠ "java/lang/invoke/MethodHandle" ∧ y.cls ≠ "java/lang/invoke/VarHandle" ∧ (parseMethodDescriptor y.desc).map (fun d => d.parameters.length) = some n) ∧ Cond.static y ∈ wsL_law
def MFi (y : MethodName) (b : ByteArray) (mL : Nat) (n : Nat) : Prop := Cond.code y b mL none ∈ wsL_law ∧ Cond.initialized y.cls ∈ wsL_law ∧ (y.cls ≠ "java/lang/invoke/MethodHandle" ∧ y.cls ≠ "java/lang/invoke/VarHandle" ∧ (parseMethodDescriptor y.desc).map (fun d => d.parameters.length) = some n) ∧ Cond.instanceMethod y ∈ wsL_law ∧ y.name = "<init>"
theorem ZW.part {isC : List Nat} (hw : ZW E A s w H locs) (hC : isC.map (fun i => w[i]?) = wc.map some) : va_P E.1 vwCl wc H ∧ ∀ (k : Nat) (q : Nat × va_E), wc[k]? = some q → ∃ i, isC[k]? = some i ∧ w[i]? = some q := by
  have at' : ∀ (k : Nat) (q : Nat × va_E), wc[k]? = some q → ∃ i, isC[k]? = some i ∧ w[i]? = some q := by
    intro k q hq
    have h1 : (isC.map (fun i => w[i]?))[k]? = some (some q) := by rw [hC, List.getElem?_map, hq]; rfl
    rw [List.getElem?_map] at h1
    cases hi : isC[k]? with
    | none => rw [hi] at h1; cases h1
    | some i => rw [hi] at h1; exact ⟨i, rfl, Option.some.inj h1⟩
  refine ⟨fun k q hq => ?_, at'⟩
  obtain ⟨i, -, h2⟩ := at' k q hq
  exact hw.1 i q h2
theorem ZW.pre {isC : List Nat} {av : List Value} (cx : Cx p s m args meth c cc nL own E A) (hw : ZW E A s w H locs) (hC : isC.map (fun i => w[i]?) = wc.map some) (hnd : va_nd isC = true) : ∀ U : State, U.heap = H → s.WarmedH U.vm → ZP E av wc H.size av.toArray U := by
  obtain ⟨hx, hb, hml, hown, hts, hK, hN, hA, hlk⟩ := cx
  intro U hU hW
  exact ⟨rfl, by rw [hU], by rw [hU]; exact (hw.part hC).1, va_K.moved hW.alike hK, (hw.2.1.sub isC hnd hC).weaken (fun _ _ _ _ => trivial), hN.warm hW⟩
theorem z_runV {lv : List (Nat × Value)} (cx : Cx p s m args meth c cc nL own E A) (hw : ZW E A s w H locs) {C : String} {T : u_T} {N ci : Nat} {fs : List Value} (hrc : wc[0]? = some (a, .inr (ci, fs))) (hcl : vwCl[ci]? = some (C, T, N)) (isC : List Nat) (hC : isC.map (fun i => w[i]?) = wc.map some) (hnd : va_nd isC = true) (hM : Met l y (Cond.code y b mL rt :: wsL_law) rm (ZP E (.ref a :: As) wc H.size) Qc rm.cells rm.slots free) (mf : MFv y b mL rt C As.length) (hl : Cond.methodLink own index y ∈ wsL_law) (hR : rm.frames + 1 ≤ R.frames ∧ 8 + (mL + 11) + rm.locals ≤ R.locals) (hls : lv_has ls nL lv) (hst : (rest.map fun v => v.category).sum ≤ 8) (hd : decode cc pc = .ok (.invokevirtual index, 3)) (hf : cells + rm.cells ≤ R.cells ∧ slots + rm.slots ≤ R.slots) :
    va_Run p l e R s m args below meth c H locs cells slots rm.cells rm.slots (F0 m pc ls (As.reverse ++ .ref a :: rest)) rest (Qc (Value.ref a :: As).toArray) free := by
  have hpre := hw.pre (av := .ref a :: As) cx hC hnd
  obtain ⟨hx, hb, hml, hown, hts, hK, hN, hA, hlk⟩ := cx
  exact va_runV (As := As) (rest := rest) (Ts := wsL_law) ⟨hx, hb, hml, hown, hts⟩ hM ⟨callB_of As.length hts (gAll mf.1) rfl rfl rfl (hts _ mf.2.1) (hts _ hl) mf.2.2.1 hR, hts _ mf.2.2.2.1, hts _ mf.2.2.2.2⟩ ⟨ZP.blind, va_recv hK (hw.part hC).1 hcl hrc, hpre⟩ rfl rfl hls.1 rfl (lv_room hst) hd hf
theorem z_runVN {lv : List (Nat × Value)} (cx : Cx p s m args meth c cc nL own E A) (hw : ZW E A s w H locs) {host : String} {C : String} {T : u_T} {N ci : Nat} {fs : List Value} (hrc : wc[0]? = some (a, .inr (ci, fs))) (hcl : vwCl[ci]? = some (C, T, N)) (isC : List Nat) (hC : isC.map (fun i => w[i]?) = wc.map some) (hnd : va_nd isC = true) (hM : Met l y (Cond.code y b mL rt :: wsL_law) rm (ZP E (.ref a :: As) wc H.size) Qc rm.cells rm.slots free) (mf : MFv y b mL rt C As.length) (hl : va_Nw (.methodLinkNest own index y host) s) (hR : rm.frames + 1 ≤ R.frames ∧ 8 + (mL + 11) + rm.locals ≤ R.locals) (hls : lv_has ls nL lv) (hst : (rest.map fun v => v.category).sum ≤ 8) (hd : decode cc pc = .ok (.invokevirtual index, 3)) (hf : cells + rm.cells ≤ R.cells ∧ slots + rm.slots ≤ R.slots) :
    va_Run p l e R s m args below meth c H locs cells slots rm.cells rm.slots (F0 m pc ls (As.reverse ++ .ref a :: rest)) rest (Qc (Value.ref a :: As).toArray) free := by
  have hpre := hw.pre (av := .ref a :: As) cx hC hnd
  obtain ⟨hx, hb, hml, hown, hts, hK, hN, hA, hlk⟩ := cx
  exact va_runVN (As := As) (rest := rest) (Ts := wsL_law) ⟨hx, hb, hml, hown, hts⟩ hM ⟨va_cnB As.length hts (gAll mf.1) rfl rfl rfl hl (hts _ mf.2.1) mf.2.2.1 hR, hts _ mf.2.2.2.1, hts _ mf.2.2.2.2⟩ ⟨ZP.blind, va_recv hK (hw.part hC).1 hcl hrc, hpre⟩ rfl rfl hls.1 rfl (lv_room hst) hd hf
theorem z_runS {lv : List (Nat × Value)} (cx : Cx p s m args meth c cc nL own E A) (hw : ZW E A s w H locs) (isC : List Nat) (hC : isC.map (fun i => w[i]?) = wc.map some) (hnd : va_nd isC = true) (hM : Met l y (Cond.code y b mL rt :: wsL_law) rm (ZP E (As) wc H.size) Qc rm.cells rm.slots free) (mf : MFs y b mL rt As.length) (hl : Cond.methodLink own index y ∈ wsL_law) (hR : rm.frames + 1 ≤ R.frames ∧ 8 + (mL + 11) + rm.locals ≤ R.locals) (hls : lv_has ls nL lv) (hst : (rest.map fun v => v.category).sum ≤ 8) (hd : decode cc pc = .ok (.invokestatic index, 3)) (hf : cells + rm.cells ≤ R.cells ∧ slots + rm.slots ≤ R.slots) :
    va_Run p l e R s m args below meth c H locs cells slots rm.cells rm.slots (F0 m pc ls (As.reverse ++ rest)) rest (Qc (As).toArray) free := by
  have hpre := hw.pre (av := As) cx hC hnd
  obtain ⟨hx, hb, hml, hown, hts, hK, hN, hA, hlk⟩ := cx
  exact va_runS (As := As) (rest := rest) (Ts := wsL_law) ⟨hx, hb, hml, hown, hts⟩ hM ⟨callB_of As.length hts (gAll mf.1) rfl rfl rfl (hts _ mf.2.1) (hts _ hl) mf.2.2.1 hR, hts _ mf.2.2.2⟩ ⟨ZP.blind, hpre⟩ rfl rfl hls.1 rfl (lv_room hst) hd hf
theorem z_runI {lv : List (Nat × Value)} (cx : Cx p s m args meth c cc nL own E A) (hw : ZW E A s w H locs) (isC : List Nat) (hC : isC.map (fun i => w[i]?) = wc.map some) (hnd : va_nd isC = true) (hM : Met l y (Cond.code y b mL none :: wsL_law) rm (ZP E (.ref a :: As) wc H.size) Qc rm.cells rm.slots free) (mf : MFi y b mL As.length) (hl : Cond.methodLink own index y ∈ wsL_law) (hR : rm.frames + 1 ≤ R.frames ∧ 8 + (mL + 11) + rm.locals ≤ R.locals) (hls : lv_has ls nL lv) (hst : (rest.map fun v => v.category).sum ≤ 8) (hd : decode cc pc = .ok (.invokespecial index, 3)) (hf : cells + rm.cells ≤ R.cells ∧ slots + rm.slots ≤ R.slots) :
    va_Run p l e R s m args below meth c H locs cells slots rm.cells rm.slots (F0 m pc ls (As.reverse ++ .ref a :: rest)) rest (Qc (Value.ref a :: As).toArray) free := by
  have hpre := hw.pre (av := .ref a :: As) cx hC hnd
  obtain ⟨hx, hb, hml, hown, hts, hK, hN, hA, hlk⟩ := cx
  exact va_runI (As := As) (rest := rest) (Ts := wsL_law) ⟨hx, hb, hml, hown, hts⟩ hM ⟨callB_of As.length hts (gAll mf.1) rfl rfl rfl (hts _ mf.2.1) (hts _ hl) mf.2.2.1 hR, mf.2.2.2.2, hts _ mf.2.2.2.1⟩ ⟨ZP.blind, hpre⟩ rfl rfl hls.1 rfl (lv_room hst) hd hf
theorem z_runIN {lv : List (Nat × Value)} (cx : Cx p s m args meth c cc nL own E A) (hw : ZW E A s w H locs) {host : String} (isC : List Nat) (hC : isC.map (fun i => w[i]?) = wc.map some) (hnd : va_nd isC = true) (hM : Met l y (Cond.code y b mL none :: wsL_law) rm (ZP E (.ref a :: As) wc H.size) Qc rm.cells rm.slots free) (mf : MFi y b mL As.length) (hl : va_Nw (.methodLinkNest own index y host) s) (hR : rm.frames + 1 ≤ R.frames ∧ 8 + (mL + 11) + rm.locals ≤ R.locals) (hls : lv_has ls nL lv) (hst : (rest.map fun v => v.category).sum ≤ 8) (hd : decode cc pc = .ok (.invokespecial index, 3)) (hf : cells + rm.cells ≤ R.cells ∧ slots + rm.slots ≤ R.slots) :
    va_Run p l e R s m args below meth c H locs cells slots rm.cells rm.slots (F0 m pc ls (As.reverse ++ .ref a :: rest)) rest (Qc (Value.ref a :: As).toArray) free := by
  have hpre := hw.pre (av := .ref a :: As) cx hC hnd
  obtain ⟨hx, hb, hml, hown, hts, hK, hN, hA, hlk⟩ := cx
  exact va_runIN (As := As) (rest := rest) (Ts := wsL_law) ⟨hx, hb, hml, hown, hts⟩ hM ⟨va_cnB As.length hts (gAll mf.1) rfl rfl rfl hl (hts _ mf.2.1) mf.2.2.1 hR, mf.2.2.2.2, hts _ mf.2.2.2.1⟩ ⟨ZP.blind, hpre⟩ rfl rfl hls.1 rfl (lv_room hst) hd hf
theorem z_ri {S : Type} {post : Int32 → S → Prop} {W1 : S → va_W} {av : Array Value} {mc ms : Nat} (cx : Cx p s m args meth c cc nL own E A) (hw : ZW E A s w H locs) (isC isR : List Nat) (hC : isC.map (fun i => w[i]?) = wc.map some) (hRr : isR.map (fun i => w[i]?) = wr.map some) (hn : va_nd isR = true) (hdis : ∀ i ∈ isR, i ∉ isC)
    (hr : va_Run p l e R s m args below meth c H locs cells slots mc ms (F0 m pc ls st0) rest (va_Qi post (ZB E wc H.size W1) (va_A wc H.size) av) (va_A wc H.size))
    (kk : ∀ (r : Int32) (u : S) (H1 : Heap) (locs1 : List Loc), post r u → ZW E A s (wr ++ W1 u) H1 locs1 → W p l e R s m args below meth c H1 locs1 (cells + mc) (slots + ms) Q (F0 m (pc + 3) ls (.int r :: rest))) : W p l e R s m args below meth c H locs cells slots Q (F0 m pc ls st0) := by
  obtain ⟨hx, hb, hml, hown, hts, hK, hN, hA, hlk⟩ := cx
  have hF := va_free hw.2.1 hw.2.2 hA isC hC
  refine va_calli hr hw.2.2 (fun q _ h => hF q h) hF (fun r u t H1 locs1 ht hvm hp hB hz hk hS => kk r u H1 locs1 hp ?_)
  obtain ⟨hP1, hK1, hD1⟩ := hB
  rw [ht] at hP1
  obtain ⟨hP', hD'⟩ := va_join hw.1 hw.2.1 isC isR hC hRr hn hdis hk hF hP1 hD1
  exact ⟨hP', hD', hS⟩
theorem z_rv {S : Type} {post : S → Prop} {W1 : S → va_W} {av : Array Value} {mc ms : Nat} (cx : Cx p s m args meth c cc nL own E A) (hw : ZW E A s w H locs) (isC isR : List Nat) (hC : isC.map (fun i => w[i]?) = wc.map some) (hRr : isR.map (fun i => w[i]?) = wr.map some) (hn : va_nd isR = true) (hdis : ∀ i ∈ isR, i ∉ isC)
    (hr : va_Run p l e R s m args below meth c H locs cells slots mc ms (F0 m pc ls st0) rest (va_Qv post (ZB E wc H.size W1) (va_A wc H.size) av) (va_A wc H.size))
    (kk : ∀ (u : S) (H1 : Heap) (locs1 : List Loc), post u → ZW E A s (wr ++ W1 u) H1 locs1 → W p l e R s m args below meth c H1 locs1 (cells + mc) (slots + ms) Q (F0 m (pc + 3) ls rest)) : W p l e R s m args below meth c H locs cells slots Q (F0 m pc ls st0) := by
  obtain ⟨hx, hb, hml, hown, hts, hK, hN, hA, hlk⟩ := cx
  have hF := va_free hw.2.1 hw.2.2 hA isC hC
  refine va_callv hr hw.2.2 (fun q _ h => hF q h) hF (fun u t H1 locs1 ht hvm hp hB hz hk hS => kk u H1 locs1 hp ?_)
  obtain ⟨hP1, hK1, hD1⟩ := hB
  rw [ht] at hP1
  obtain ⟨hP', hD'⟩ := va_join hw.1 hw.2.1 isC isR hC hRr hn hdis hk hF hP1 hD1
  exact ⟨hP', hD', hS⟩
/-- a row's contents count below its length alone -/
theorem ZW.ext {n : Nat} {f g : Nat → Int32} (hw : ZW E A s w H locs) (q0 : Nat) {cA : ClassId} (he : w[q0]? = some (a, .inl (cA, n, .inl f))) (h : ∀ j, j < n → f j = g j) : ZW E A s (w.set q0 (a, .inl (cA, n, .inl g))) H locs := by
  refine ⟨hw.1.set hw.2.1 he ?_ (fun q _ => rfl), hw.2.1.set he, hw.2.2⟩
  have h1 : H[a]? = some (vp_cell cA (n, .inl f)) := hw.1 q0 _ he
  show H[a]? = some (vp_cell cA (n, .inl g))
  rw [h1, vp_cell_i, vp_cell_i]
  unfold arrV
  congr 3
  funext j
  show Value.int (f j.val) = Value.int (g j.val)
  rw [h j.val j.isLt]
theorem z_copy {lv : List (Nat × Value)} (cx : Cx p s m args meth c cc nL own E A) (hw : ZW E A s w H locs) (q0 q1 : Nat) {a0 n0 n1 : Nat} {F G : Nat → Nat} (ha0 : w[q0]? = some (a0, ia E n0 (nA F))) (ha1 : w[q1]? = some (a, ia E n1 (nA G))) (sp dp n : Nat) {xs xd xn : Int32} (e1 : xs = nI sp) (e2 : xd = nI dp) (e3 : xn = nI n) (h4 : sp + n ≤ n0) (h5 : dp + n ≤ n1) (hn0 : n0 < 2 ^ 31) (hn1 : n1 < 2 ^ 31)
    (hls : lv_has ls nL lv) (hl : Cond.methodLink own index arraycopyName ∈ wsL_law) (hframes : 1 ≤ R.frames) (hlocals : (rest.map fun v => v.category).sum + (nativeFrameWords "java/lang/System" "arraycopy" 5 + 11) ≤ R.locals) (hd : decode cc pc = .ok (.invokestatic index, 3))
    (kk : ∀ (H1 : Heap) (locs1 : List Loc), ZW E A s (w.set q1 (a, ia E n1 (nA (cpyN F G sp dp n)))) H1 locs1 → W p l e R s m args below meth c H1 locs1 cells slots Q (F0 m (pc + 3) ls rest)) : W p l e R s m args below meth c H locs cells slots Q (F0 m pc ls (.int xn :: .int xd :: .ref a :: .int xs :: .ref a0 :: rest)) := by
  obtain ⟨hx, hb, hml, hown, hts, hK, hN, hA, hlk⟩ := cx
  subst e1; subst e2; subst e3
  refine va_copyi hx hb (hml.trans hls.1.symm) hown (hts _ hl) (hts _ wd_95) (hts _ wd_96) (hts _ wd_97) hK hw.1 hw.2.1 hw.2.2 q0 q1 0 0 ha0 ha1 rfl rfl rfl (nI_pos (by omega)) (nI_pos (by omega)) (nI_pos (by omega)) (by rw [nI_clamp (by omega), nI_clamp (by omega)]; exact h4) (by rw [nI_clamp (by omega), nI_clamp (by omega)]; exact h5) (fun i _ => rfl) hframes hlocals hd (fun H1 locs1 h1 h2 h3 => kk H1 locs1 ?_)
  rw [nI_clamp (by omega), nI_clamp (by omega), nI_clamp (by omega), nA_cpy] at h1 h2
  exact ⟨h1, h2, h3⟩
theorem z_mmax {lv : List (Nat × Value)} (cx : Cx p s m args meth c cc nL own E A) (x y : Nat) (h1 : x < 2 ^ 31) (h2 : y < 2 ^ 31) (hls : lv_has ls nL lv) (hl : Cond.methodLink own index Lib.Math.max.name ∈ wsL_law) (hframes : 1 ≤ R.frames) (hlocals : (rest.map fun v => v.category).sum + 13 ≤ R.locals) (hc : cells ≤ R.cells) (hs : slots ≤ R.slots) (hd : decode cc pc = .ok (.invokestatic index, 3))
    (kk : W p l e R s m args below meth c H locs cells slots Q (F0 m (pc + 3) ls (.int (nI (max x y)) :: rest))) : W p l e R s m args below meth c H locs cells slots Q (F0 m pc ls (.int (nI y) :: .int (nI x) :: rest)) := by
  obtain ⟨hx, hb, hml, hown, hts, hK, hN, hA, hlk⟩ := cx
  refine va_mmax hx hb (hml.trans hls.1.symm) hown (hts _ hl) (hts _ wd_277) (hts _ wd_274) (hts _ wd_278) hframes hlocals hc hs hd ?_
  rw [show (if nI x < nI y then nI y else nI x) = nI (max x y) from ?_]
  · exact kk
  · by_cases h : x < y
    · rw [if_pos (nI_lt h (by omega))]; congr 1; omega
    · rw [if_neg (nI_nlt (by omega) (by omega))]; congr 1; omega
theorem z_mmin {lv : List (Nat × Value)} (cx : Cx p s m args meth c cc nL own E A) (x y : Nat) (h1 : x < 2 ^ 31) (h2 : y < 2 ^ 31) (hls : lv_has ls nL lv) (hl : Cond.methodLink own index Lib.Math.min.name ∈ wsL_law) (hframes : 1 ≤ R.frames) (hlocals : (rest.map fun v => v.category).sum + 13 ≤ R.locals) (hc : cells ≤ R.cells) (hs : slots ≤ R.slots) (hd : decode cc pc = .ok (.invokestatic index, 3))
    (kk : W p l e R s m args below meth c H locs cells slots Q (F0 m (pc + 3) ls (.int (nI (min x y)) :: rest))) : W p l e R s m args below meth c H locs cells slots Q (F0 m pc ls (.int (nI y) :: .int (nI x) :: rest)) := by
  obtain ⟨hx, hb, hml, hown, hts, hK, hN, hA, hlk⟩ := cx
  refine va_mmin hx hb (hml.trans hls.1.symm) hown (hts _ hl) (hts _ wd_273) (hts _ wd_274) (hts _ wd_275) hframes hlocals hc hs hd ?_
  rw [show (if nI y < nI x then nI y else nI x) = nI (min x y) from ?_]
  · exact kk
  · by_cases h : y < x
    · rw [if_pos (nI_lt h (by omega))]; congr 1; omega
    · rw [if_neg (nI_nlt (by omega) (by omega))]; congr 1; omega
theorem z_newa {atype : ArrayType} (cx : Cx p s m args meth c cc nL own E A) (hw : ZW E A s w H locs) (N : Nat) {x : Int32} (hxn : x = nI N) (hN : N < 2 ^ 20) {a0 : vp_A} {ty : FieldType} {k : Nat} {cA : ClassId} (hty : newarray.typeOf atype = ty) (hk : (ZT E)[k]? = some (cA, ty)) (hob : ∀ C, ty ≠ .object C) (ha : ∀ cA : ClassId, vp_cell cA a0 = arrV cA N (fun _ => defaultValue ty)) (hby : componentBytes ty ≤ 8) (harr : Cond.arrayClass ty ∈ wsL_law) (hcells : cells + 1 ≤ R.cells) (hslots : slots + N ≤ R.slots) (hd : decode cc pc = .ok (.newarray atype, 2))
    (kk : ∀ (q : Nat) (H1 : Heap), ZW E A s (w ++ [(q, .inl (cA, a0))]) H1 locs → W p l e R s m args below meth c H1 locs (cells + 1) (slots + N) Q (F0 m (pc + 2) ls (.ref q :: rest))) : W p l e R s m args below meth c H locs cells slots Q (F0 m pc ls (.int x :: rest)) := by
  obtain ⟨hx, hb, hml, hown, hts, hK, hN', hA, hlk⟩ := cx
  subst hxn; subst hty
  refine va_newa (atype := atype) hx hb (hts _ harr) rfl hK hw.1 hw.2.1 hw.2.2 hA ha (nI_pos (by omega)) (nI_clamp (by omega)) (Nat.le_trans (Nat.mul_le_mul (Nat.le_of_lt hN) hby) (by decide)) hcells hslots hd (fun q cB H1 k1 h1 h2 h3 => ?_)
  have e : cB = cA := by
    have g1 := (k1.2 (ZT E).length (cB, newarray.typeOf atype) (by rw [List.getElem?_append_right (Nat.le_refl _)]; simp)).2
    have g2 := (hK.2 k (cA, newarray.typeOf atype) hk).2
    have z1 : ∀ c : ClassId, va_RA s c (newarray.typeOf atype) → s.vm.findClass ("[" ++ (newarray.typeOf atype).toString) = some c := by
      intro c h
      cases hz : newarray.typeOf atype with
      | object C => exact absurd hz (hob C)
      | _ => rw [hz] at h; exact h
    exact Option.some.inj ((z1 _ g1).symm.trans (z1 _ g2))
  subst e
  exact kk q H1 ⟨h1, h2, h3⟩
theorem z_new (cx : Cx p s m args meth c cc nL own E A) (hw : ZW E A s w H locs) {C : String} {T : u_T} {N : Nat} (ci : Nat) (hc : vwCl[ci]? = some (C, T, N)) (hin : ∀ x ∈ u_ws C T N, x ∈ wsL_law) {ty0 : Nat → FieldType} (hty : ∀ k, k < N → parseFieldDescriptor (T k).2.2.1 = some (ty0 k)) (hcl : Cond.classLink own index C ∈ wsL_law) (hinst : Cond.instantiable C N ∈ wsL_law) (hini : Cond.initialized C ∈ wsL_law) (fs : List Value) (hfs : ∀ j, j < N → defaultValue (ty0 j) = vp_V fs j) (hcells : cells + 1 ≤ R.cells) (hslots : slots + N ≤ R.slots) (hd : decode cc pc = .ok (.new index, 3))
    (kk : ∀ (q : Nat) (H1 : Heap), ZW E A s (w ++ [(q, .inr (ci, fs))]) H1 locs → W p l e R s m args below meth c H1 locs (cells + 1) (slots + N) Q (F0 m (pc + 3) ls (.ref q :: rest))) : W p l e R s m args below meth c H locs cells slots Q (F0 m pc ls rest) := by
  obtain ⟨hx, hb, hml, hown, hts, hK, hN', hA, hlk⟩ := cx
  exact va_new hx hb hts hin ty0 hty hown (hts _ hcl) (hts _ hinst) (hts _ hini) hK hw.1 hw.2.1 hw.2.2 hA hc hfs hcells hslots hd (fun q H1 h1 h2 h3 => kk q H1 ⟨h1, h2, h3⟩)
theorem z_obj {lv : List (Nat × Value)} (cx : Cx p s m args meth c cc nL own E A) (hls : lv_has ls nL lv) (hl : Cond.methodLink own index Lib.objectInit ∈ wsL_law) (hframes : 1 ≤ R.frames) (hlocals : (rest.map fun v => v.category).sum + 12 ≤ R.locals) (hd : decode cc pc = .ok (.invokespecial index, 3)) (kk : W p l e R s m args below meth c H locs cells slots Q (F0 m (pc + 3) ls rest)) : W p l e R s m args below meth c H locs cells slots Q (F0 m pc ls (.ref a :: rest)) := by
  obtain ⟨hx, hb, hml, hown, hts, hK, hN', hA, hlk⟩ := cx
  refine W.objInit hx hb hown (hts _ hl) (hts _ wd_10) (hts _ wd_11) rfl (by rw [hml]; exact hls.1) rfl hd hframes (by show 2 * 0 + _ + 12 ≤ _; omega) ?_
  exact kk
end ZC
