/-! ===== base: numbers, rows of numbers, worlds, contracts ===== -/
def bI (b : Bool) : Int32 := nI (cond b 1 0)
theorem bI_t : bI true = nI 1 := rfl
theorem bI_f : bI false = nI 0 := rfl
theorem bI_eq0 {b : Bool} : bI b = 0 ↔ b = false := by cases b <;> decide
theorem bI_of {b : Bool} {c : Prop} [Decidable c] (h : b = decide c) : bI b = nI (if c then 1 else 0) := by subst h; by_cases h : c <;> simp [bI, h]
/-- x is one of 0 .. n-1 -/
def inR (x : Int32) (n : Nat) : Bool := decide (0 ≤ x.toInt ∧ x.toInt < n)
theorem inR_nI {k n : Nat} (hk : k < 2 ^ 31) : inR (nI k) n = decide (k < n) := by
  unfold inR
  rw [nI_toInt hk]
  simp
theorem inR_get {x : Int32} {n : Nat} (h : inR x n = true) (hn : n < 2 ^ 31) : ∃ k : Nat, k < n ∧ x = nI k := by
  unfold inR at h
  have h := of_decide_eq_true h
  exact vp_in_of (vp_in_iff.mpr h) hn
theorem inR_neg {x : Int32} {n : Nat} (h : x < 0) : inR x n = false := by
  unfold inR
  rw [Int32.lt_iff_toInt_lt, Int32.toInt_zero] at h
  simp; omega
theorem inR_ge {x : Int32} {n : Nat} (hn : n < 2 ^ 31) (h : nI n ≤ x) : inR x n = false := by
  unfold inR
  rw [Int32.le_iff_toInt_le, nI_toInt hn] at h
  simp; omega
theorem inR_in {x : Int32} {n : Nat} (hn : n < 2 ^ 31) (h0 : ¬ x < 0) (h : ¬ nI n ≤ x) : inR x n = true := by
  unfold inR
  rw [Int32.le_iff_toInt_le, nI_toInt hn] at h
  rw [Int32.lt_iff_toInt_lt, Int32.toInt_zero] at h0
  simp; omega
/-- in(v, 0, b) -/
theorem inR_le {x : Int32} {n : Nat} (hn : n < 2 ^ 31) : decide ((nI 0) ≤ x ∧ x ≤ nI n) = inR x (n + 1) := by
  unfold inR
  refine decide_eq_decide.mpr ?_
  rw [Int32.le_iff_toInt_le, Int32.le_iff_toInt_le, nI_toInt hn, nI_toInt (by omega)]
  omega
theorem inR_pred {x : Int32} {n : Nat} (hn : n < 2 ^ 30) : decide ((nI 0) ≤ x ∧ x ≤ nI n - nI 1) = inR x n := by
  unfold inR
  refine decide_eq_decide.mpr ?_
  rw [Int32.le_iff_toInt_le, Int32.le_iff_toInt_le, pk_sub_toInt (by omega) (by omega), nI_toInt (by omega)]
  omega
/-- rows of numbers -/
def nA (F : Nat → Nat) : Nat → Int32 := fun j => nI (F j)
def updN (F : Nat → Nat) (k v : Nat) : Nat → Nat := fun j => if j = k then v else F j
theorem updN_eq (F : Nat → Nat) (k v : Nat) : updN F k v k = v := if_pos rfl
theorem updN_ne (F : Nat → Nat) {k j : Nat} (v : Nat) (h : j ≠ k) : updN F k v j = F j := if_neg h
theorem nA_upd (F : Nat → Nat) (k v : Nat) : upd (nA F) k (nI v) = nA (updN F k v) := by
  funext j
  simp only [upd, nA, updN]
  split <;> rfl
def cpyN (F G : Nat → Nat) (sp dp n : Nat) : Nat → Nat := fun j => if dp ≤ j ∧ j < dp + n then F (sp + (j - dp)) else G j
theorem nA_cpy (F G : Nat → Nat) (sp dp n : Nat) : va_cpy (nA F) (nA G) sp dp n = nA (cpyN F G sp dp n) := by
  funext j
  simp only [va_cpy, nA, cpyN]
  split <;> rfl
/-- the classes' numbers, and those of the arrays' classes -/
abbrev ZE : Type := va_G × ClassId × ClassId × ClassId
abbrev ZT (E : ZE) : List (ClassId × FieldType) := [(E.2.1, .int), (E.2.2.1, .boolean), (E.2.2.2, .array .int)]
abbrev ia (E : ZE) (n : Nat) (f : Nat → Int32) : va_E := .inl (E.2.1, n, .inl f)
abbrev ba (E : ZE) (n : Nat) (f : Nat → Int32) : va_E := .inl (E.2.2.1, n, .inl f)
def two (a b : Nat) : Nat → Option Nat := fun i => if i = 0 then some a else if i = 1 then some b else none
abbrev ra (E : ZE) (a b : Nat) : va_E := .inl (E.2.2.2, 2, .inr (.inr (.inr (.inr (two a b)))))
abbrev ob (ci : Nat) (fs : List Value) : va_E := .inr (ci, fs)
theorem zAOA.spec {U : State} (h : zAOA U) : ∃ comp c k, U.vm.findClass (FieldType.array .int).toString = some comp ∧ (U.vm.classes.findIdx? fun x => match x.kind with | .array component _ => component == comp | _ => false) = some c ∧ U.vm.classes[c]? = some k ∧ k.kind = .array comp (.array .int) ∧
      U.vm.findClass ("[" ++ (FieldType.array .int).toString) = some c := by
  unfold zAOA at h
  simp only [Cond.before, Cond.holds, Cond.value, beq_iff_eq] at h
  cases hc : U.vm.findClass (FieldType.array .int).toString with
  | none => simp [hc] at h
  | some comp =>
    simp only [hc, Option.bind_some, Option.bind_eq_some_iff, Option.map_eq_some_iff] at h
    obtain ⟨c, hi, k, hk, hb⟩ := h
    obtain ⟨hlt, hp, -⟩ := Array.findIdx?_eq_some_iff_getElem.mp hi
    have hkk : U.vm.classes[c] = k := (Array.getElem?_eq_some_iff.mp hk).2
    rw [hkk] at hp
    cases hkind : k.kind with
    | array component ty =>
      rw [hkind] at hb hp
      simp at hb hp
      exact ⟨comp, c, k, rfl, hi, hk, by rw [hkind, hp, hb.1], hb.2⟩
    | _ => rw [hkind] at hb; simp at hb
theorem zAOA.moved {u U : State} (hvm : u.vm.Alike U.vm) (h : zAOA u) : zAOA U := by
  obtain ⟨comp, c, k, h1, h2, h3, h4, h5⟩ := h.spec
  obtain ⟨k', hk', he⟩ := hvm.2.2 _ _ h3
  have hi : (U.vm.classes.findIdx? fun (x : Class) => match x.kind with | .array component _ => component == comp | _ => false) = some c := by
    have e1 := va_idx_bare U.vm comp
    have e2 := va_idx_bare u.vm comp
    refine e1.symm.trans ?_
    first | rw [hvm.bare_eq] | rw [← hvm.bare_eq]
    exact e2.trans h2
  have hkind : k'.kind = .array comp (.array .int) := by rw [he]; exact h4
  have f1 : U.vm.findClass (FieldType.array .int).toString = some comp := by rw [hvm.findClass]; exact h1
  have f2 : U.vm.findClass ("[" ++ (FieldType.array .int).toString) = some c := by rw [hvm.findClass]; exact h5
  unfold zAOA Cond.before Cond.holds
  simp only [Cond.value]
  rw [f1, Option.bind_some]
  refine (congrArg (fun o : Option Nat => (o.bind (fun c => (U.vm.classes[c]?).map fun (k : Class) => match k.kind with | .array _ ty => decide (ty = FieldType.array .int) && decide (U.vm.findClass ("[" ++ (FieldType.array .int).toString) = some c) | _ => false) == some true)) hi).trans ?_
  simp [hk', hkind, f2]
theorem NW.warm {s U : State} (hW : s.WarmedH U.vm) (h : NW s) : NW U :=
  ⟨fun q hq => va_Nw.warmF hW (h.1 q hq), fun q hq => va_Nw.warmM hW (h.2.1 q hq), zAOA.moved hW.alike h.2.2⟩
theorem NW.call {U : State} {g : JFrame} {mk : MethodId} {a : Array Value} (h : NW U) : NW (U.calling g mk a) :=
  ⟨fun q hq => va_Nw.same rfl rfl (h.1 q hq), fun q hq => va_Nw.same rfl rfl (h.2.1 q hq), zAOA.moved (Vm.Alike.refl U.vm) h.2.2⟩
/-- what a walk always has at hand -/
def Cx (p : Program) (s : State) (m : MethodId) (args : Array Value) (meth : Method) (c : Code) (cc : ByteArray) (nL : Nat) (own : String) (E : ZE) (A : Nat → Prop) : Prop :=
  p.tables.exec = Jvm.exec ∧ c.code = cc ∧ c.maxLocals = nL ∧ s.vm.findClass own = some m.cls ∧ (∀ w ∈ wsL_law, w.before args s = true) ∧ va_K E.1 vwCl (ZT E) s ∧ NW s ∧ (∀ q, s.heap.size ≤ q → A q) ∧ meth.locks = false
def ZW (E : ZE) (A : Nat → Prop) (s : State) (w : va_W) (H : Heap) (locs : List Loc) : Prop := va_P E.1 vwCl w H ∧ va_D A w ∧ va_S A s.heap H locs
def ZP (E : ZE) (av : List Value) (w : va_W) (sz : Nat) : Array Value → State → Prop := va_Pc av (fun U => U.heap.size = sz ∧ va_P E.1 vwCl w U.heap ∧ va_K E.1 vwCl (ZT E) U ∧ va_D (fun _ => True) w ∧ NW U)
def ZB {S : Type} (E : ZE) (w : va_W) (sz : Nat) (W1 : S → va_W) : S → State → Prop := fun u t => va_P E.1 vwCl (W1 u) t.heap ∧ va_K E.1 vwCl (ZT E) t ∧ va_D (va_A w sz) (W1 u)
/-- a contract: int answer, or none -/
def ZMi (l : Launch) (y : MethodName) (b : ByteArray) (mL : Nat) (rt : Option FieldType) (rm : Room) (E : ZE) (av : List Value) (w : va_W) {S : Type} (post : Int32 → S → Prop) (W1 : S → va_W) : Prop :=
  ∀ sz, Met l y (Cond.code y b mL rt :: wsL_law) rm (ZP E av w sz) (va_Qi post (ZB E w sz W1) (va_A w sz)) rm.cells rm.slots (va_A w sz)
def ZMv (l : Launch) (y : MethodName) (b : ByteArray) (mL : Nat) (rm : Room) (E : ZE) (av : List Value) (w : va_W) {S : Type} (post : S → Prop) (W1 : S → va_W) : Prop :=
  ∀ sz, Met l y (Cond.code y b mL none :: wsL_law) rm (ZP E av w sz) (va_Qv post (ZB E w sz W1) (va_A w sz)) rm.cells rm.slots (va_A w sz)
theorem ZP.blind {E : ZE} {av : List Value} {w : va_W} {sz : Nat} : FrameBlind (ZP E av w sz) := by
  intro a U g mk q
  obtain ⟨q0, q1, q2, q3, q4, q5⟩ := q
  exact ⟨q0, q1, q2, va_K.moved (u := U) (U := U.calling g mk a) (Vm.Alike.refl U.vm) q3, q4, q5.call⟩
theorem wsL_good : GoodIn wsL_law wsL_law := fun w h => ⟨h, good_of_word (wsL_good1 w h)⟩
theorem gAll {y : MethodName} {b : ByteArray} {mL : Nat} {rt : Option FieldType} (h : Cond.code y b mL rt ∈ wsL_law) : GoodIn wsL_law (Cond.code y b mL rt :: wsL_law) := fun w hw => by
  rcases List.mem_cons.mp hw with rfl | hw
  · exact wsL_good _ h
  · exact wsL_good _ hw
