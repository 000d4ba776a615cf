/-! ===== rows of booleans, joins ===== -/
def bA (f : Nat → Bool) : Nat → Int32 := fun j => bI (f j)
def updB (f : Nat → Bool) (k : Nat) (v : Bool) : Nat → Bool := fun j => if j = k then v else f j
theorem updB_eq (f : Nat → Bool) (k : Nat) (v : Bool) : updB f k v k = v := if_pos rfl
theorem updB_ne (f : Nat → Bool) {k j : Nat} (v : Bool) (h : j ≠ k) : updB f k v j = f j := if_neg h
theorem bA_upd (f : Nat → Bool) (k : Nat) (v : Bool) : upd (bA f) k (bI v) = bA (updB f k v) := by
  funext j
  simp only [upd, bA, updB]
  split <;> rfl
theorem z_decr (a : Nat) : nI a + Int32.ofInt (-1) = nI a - nI 1 := by
  rw [Int32.sub_eq_add_neg]
  rfl
section ZJ
variable {p : Program} {l : Launch} {e : Env} {R : Room} {s : State} {m : MethodId} {args : Array Value} {below : List Frame} {meth : Method} {c : Code} {H : Heap} {locs : List Loc} {cells slots : Nat} {Q : State → Prop}
variable {cc : ByteArray} {pc nL : Nat} {ls : Array Slot} {rest : List Value} {own : String} {E : ZE} {A : Nat → Prop} {w : va_W} {a : Nat}
theorem zSt {v v2 : Value} (h : v = v2) (k : W p l e R s m args below meth c H locs cells slots Q (F0 m pc ls (v2 :: rest))) : W p l e R s m args below meth c H locs cells slots Q (F0 m pc ls (v :: rest)) := h ▸ k
theorem z_zaldB (cx : Cx p s m args meth c cc nL own E A) (hw : ZW E A s w H locs) (q0 : Nat) {n : Nat} {f : Nat → Bool} (he : w[q0]? = some (a, ba E n (bA f))) (i : Nat) {x : Int32} (hxi : x = nI i) (hi : i < n) (hn : n < 2 ^ 31) (hd : decode cc pc = .ok (.baload, 1)) (kk : W p l e R s m args below meth c H locs cells slots Q (F0 m (pc + 1) ls (.int (bI (f i)) :: rest))) : W p l e R s m args below meth c H locs cells slots Q (F0 m pc ls (.int x :: .ref a :: rest)) := z_zald cx hw q0 he i hxi hi hn hd kk
theorem z_zastB (cx : Cx p s m args meth c cc nL own E A) (hw : ZW E A s w H locs) (q0 : Nat) {n : Nat} {f : Nat → Bool} {b : Bool} (he : w[q0]? = some (a, ba E n (bA f))) (i : Nat) {x : Int32} (hxi : x = nI i) (hi : i < n) (hn : n < 2 ^ 31) (hd : decode cc pc = .ok (.bastore, 1)) (kk : ∀ (H1 : Heap) (locs1 : List Loc), ZW E A s (w.set q0 (a, ba E n (bA (updB f i b)))) H1 locs1 → W p l e R s m args below meth c H1 locs1 cells slots Q (F0 m (pc + 1) ls rest)) : W p l e R s m args below meth c H locs cells slots Q (F0 m pc ls (.int (bI b) :: .int x :: .ref a :: rest)) := z_zast cx hw q0 he i hxi hi hn hd (fun H1 locs1 h => kk H1 locs1 (by rw [bA_upd] at h; exact h))
end ZJ
