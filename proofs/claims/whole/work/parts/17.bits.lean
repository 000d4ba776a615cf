/-! ===== the bits of a mean ===== -/
abbrev fcg (x y : UInt32) : Int32 := Op.cmpValue (FP.fcmp x y) CmpOp.g
abbrev fcl (x y : UInt32) : Int32 := Op.cmpValue (FP.fcmp x y) CmpOp.l
def noN (x : UInt32) : Bool := decide (x &&& 0x7fffffff ≤ 0x7f800000)
theorem noN_of {x : UInt32} (h : noN x = true) : vf_n32 x := (of_decide_eq_true h : x &&& 0x7fffffff ≤ 0x7f800000)
def bl1 : Nat → UInt32 × Int32 → UInt32 × Int32
  | 0, t => t
  | k + 1, t => if fcl t.1 FP.fconst2 < 0 then t else bl1 k (FP.fdiv t.1 FP.fconst2, t.2 + 1)
def ok1 : Nat → UInt32 → Bool
  | 0, _ => true
  | k + 1, x => if fcl x FP.fconst2 < 0 then true else (noN (FP.fdiv x FP.fconst2) && ok1 k (FP.fdiv x FP.fconst2))
def bl2 : Nat → UInt32 × Int32 → UInt32 × Int32
  | 0, t => t
  | k + 1, t => if 0 ≤ fcg t.1 FP.fconst1 then t else bl2 k (FP.fmul t.1 FP.fconst2, t.2 + (-1))
def ok2 : Nat → UInt32 → Bool
  | 0, _ => true
  | k + 1, x => if 0 ≤ fcg x FP.fconst1 then true else (noN (FP.fmul x FP.fconst2) && ok2 k (FP.fmul x FP.fconst2))
def bfin (t : UInt32 × Int32) : Int32 := (t.2 <<< (nI 23 &&& 31)) + FP.f2i (FP.fmul (FP.fsub t.1 FP.fconst1) 1258291200)
def bres (x : UInt32) : Int32 := if 0 < fcg x FP.fconst0 then bfin (bl2 8 (bl1 8 (x, nI 127))) else nI 0
def bokF (t : UInt32 × Int32) : Bool := noN (FP.fsub t.1 FP.fconst1) && noN (FP.fmul (FP.fsub t.1 FP.fconst1) 1258291200)
def bok (x : UInt32) : Bool := if 0 < fcg x FP.fconst0 then (ok1 8 x && (ok2 8 (bl1 8 (x, nI 127)).1 && bokF (bl2 8 (bl1 8 (x, nI 127))))) else true
/-- the reference's -/
def bu (a b : Nat) : Nat → Int32 → Int32
  | 0, x => x
  | k + 1, x => if nI a < (nI b) <<< ((x + nI 1) &&& 31) then x else bu a b k (x + 1)
def tu (a b : Nat) : Nat → Int32 → Bool
  | 0, _ => false
  | k + 1, x => if nI a < (nI b) <<< ((x + nI 1) &&& 31) then true else tu a b k (x + 1)
def bdn (a b : Nat) : Nat → Int32 → Int32
  | 0, x => x
  | k + 1, x => if 0 < x then x else if nI b ≤ (nI a) <<< ((-x) &&& 31) then x else bdn a b k (x + (-1))
def tdn (a b : Nat) : Nat → Int32 → Bool
  | 0, _ => false
  | k + 1, x => if 0 < x then true else if nI b ≤ (nI a) <<< ((-x) &&& 31) then true else tdn a b k (x + (-1))
def bRd (tw bl q : Int64) : Int64 := if 0 < lg_cmp tw bl then 1 else if ¬ lg_cmp tw bl = 0 then 0 else if ¬ lg_cmp (q - q / 2 * 2) 1 = 0 then 0 else 1
def bMf (a b : Nat) (x : Int32) : Int32 := ((nI 126 + x) <<< (nI 23 &&& 31)) + ((((nI a).toInt64 <<< ((nI 23 - x).toInt64 &&& 63)) / (nI b).toInt64) + bRd (2 * (((nI a).toInt64 <<< ((nI 23 - x).toInt64 &&& 63)) - ((nI a).toInt64 <<< ((nI 23 - x).toInt64 &&& 63)) / (nI b).toInt64 * (nI b).toInt64)) (nI b).toInt64 (((nI a).toInt64 <<< ((nI 23 - x).toInt64 &&& 63)) / (nI b).toInt64)).toInt32
def bEx (a b : Nat) : Int32 := bdn a b 12 (bu a b 12 (nI 0))
def bitsM (a b : Nat) : Int32 := if a = 0 then nI 0 else bMf a b (bEx a b)
def mokM (a b : Nat) : Bool := if a = 0 then true else (tu a b 12 (nI 0) && (tdn a b 12 (bu a b 12 (nI 0)) && decide (¬ (nI b).toInt64 = 0)))
def mw (a b : Nat) : UInt32 := FP.fdiv (FP.i2f (nI a)) (FP.i2f (nI b))
def mwT (a b : Nat) : Bool := noN (mw a b) && (bok (mw a b) && (mokM a b && decide (bres (mw a b) = bitsM a b)))
set_option maxRecDepth 100000 in
theorem mwT_all : ((List.range 25).all fun b => (List.range 121).all fun a => (decide (b = 0) || decide (5 * b < a)) || mwT a b) = true := by decide +kernel
theorem mwT_at {a b : Nat} (h0 : 0 < b) (hb : b ≤ 24) (ha : a ≤ 5 * b) : mwT a b = true := by
  have h1 := List.all_eq_true.mp mwT_all b (List.mem_range.mpr (by omega))
  have h2 := List.all_eq_true.mp h1 a (List.mem_range.mpr (by omega))
  simp only [Bool.or_eq_true, decide_eq_true_eq] at h2
  rcases h2 with (h | h) | h
  · omega
  · omega
  · exact h
theorem mw_ok {a b : Nat} (h0 : 0 < b) (hb : b ≤ 24) (ha : a ≤ 5 * b) : noN (mw a b) = true ∧ bok (mw a b) = true ∧ mokM a b = true ∧ bres (mw a b) = bitsM a b := by
  have h := mwT_at h0 hb ha
  simp only [mwT, Bool.and_eq_true, decide_eq_true_eq] at h
  exact h
theorem wsum_le {F : Nat → Nat} {sd a n : Nat} (h : ∀ k, k < n → F (4 * k + 2 + sd) ≤ 5) : wsum F sd a n ≤ 5 * cnt F sd a n := by
  induction n with
  | zero => simp [wsum]
  | succ n ih =>
    have h1 := ih (fun k hk => h k (by omega))
    have h2 := h n (by omega)
    simp only [wsum, cnt]
    split <;> omega
def mwR (F : Nat → Nat) (n : Nat) (sd a : Int32) : Int32 := if (inR sd 2 && inR a 10) = true then (if cnt F (cl sd) (cl a) n = 0 then -3 else bitsM (wsum F (cl sd) (cl a) n) (cnt F (cl sd) (cl a) n)) else -1

def rmX5_bitsOf : Room := { frames := 0, cells := 0, slots := 0, locals := 0 }
set_option maxHeartbeats 4000000 in
set_option maxRecDepth 100000 in
theorem c_X5_bitsOf (l : Launch) (E : ZE) (x : UInt32) (hok : bok x = true) : ZMi l yX5_bitsOf cX5_bitsOf 4 (some .int) rmX5_bitsOf E [.float x] [] (S := Unit) (fun r _ => r = bres x) (fun _ => []) := by
  refine z_mi (by decide) (Nat.le_of_ble_eq_true rfl) ?_
  intro p e s m args below meth c A Q ls cx hin hw hl ret
  obtain ⟨hx, hb, hml, hown, hts, hK, hN, hA, hlk⟩ := id cx
  have hl : lv_has ls 4 [(0, .float x)] := hl
  refine lv_fload_n hx hb dX5_bitsOf_0 rfl (lv_at hl 0 rfl) ?_
  refine lv_fconst0 hx hb dX5_bitsOf_1 ?_
  refine lv_fcmp hx hb dX5_bitsOf_2 ?_
  refine lv_if_gt (tgt := 8) hx hb dX5_bitsOf_3 (by decide) (fun c_3 => ?_) (fun c_3 => ?_)
  · refine lv_fload_n hx hb dX5_bitsOf_8 rfl (lv_at hl 0 rfl) ?_
    refine lv_fstore_n (lv' := [(1, .float x), (0, .float x)]) hx hb dX5_bitsOf_9 rfl hl (by decide) rfl (fun ls hl => ?_)
    refine lv_bipush (v := nI 127) hx hb dX5_bitsOf_10 (by decide) ?_
    refine lv_istore_n (lv' := [(2, .int (nI 127)), (1, .float x), (0, .float x)]) hx hb dX5_bitsOf_12 rfl hl (by decide) rfl (fun ls hl => ?_)
    refine lv_iconst (v := nI 0) hx hb dX5_bitsOf_13 (by decide) ?_
    refine lv_istore_n (lv' := [(3, .int (nI 0)), (2, .int (nI 127)), (1, .float x), (0, .float x)]) hx hb dX5_bitsOf_14 rfl hl (by decide) rfl (fun ls hl => ?_)
    have hok9_ := hok
    simp only [bok] at hok9_
    rw [if_pos c_3] at hok9_
    simp only [Bool.and_eq_true] at hok9_
    obtain ⟨hok1_, hok2_⟩ := hok9_
    have loop_15 : ∀ (fuel : Nat) (k : Nat) (sg : UInt32) (ex : Int32) (hk : k ≤ 8) (hV : bl1 k (sg, ex) = bl1 8 (x, nI 127)) (hT : ok1 k sg = true) (hm : k < fuel) (H : Heap) (locs : List Loc) (ls : Array Slot), ZW E A s [] H locs → lv_has ls 4 [(0, .float x), (1, .float sg), (2, .int ex), (3, .int (nI (8 - k)))] → W p l e rmX5_bitsOf s m args below meth c H locs 0 0 Q (F0 m 15 ls []) := by
      intro fuel
      induction fuel with
      | zero => intro k sg ex hk hV hT hm; exact absurd hm (Nat.not_lt_zero _)
      | succ fuel ih_15 =>
        intro k sg ex hk hV hT hm H locs ls hw hl
        refine lv_iload_n hx hb dX5_bitsOf_15 rfl (lv_at hl 3 rfl) ?_
        refine lv_bipush (v := nI 8) hx hb dX5_bitsOf_16 (by decide) ?_
        refine z_icmp_ge hx hb (by omega) (by decide) 40 dX5_bitsOf_18 (by decide) (fun c_18 => ?_) (fun c_18 => ?_)
        · refine lv_iconst (v := nI 0) hx hb dX5_bitsOf_40 (by decide) ?_
          refine lv_istore_n (lv' := [(3, .int (nI 0)), (0, .float x), (1, .float sg), (2, .int ex)]) hx hb dX5_bitsOf_41 rfl hl (by decide) rfl (fun ls hl => ?_)
          have hE_ : bl1 8 (x, nI 127) = (sg, ex) := by rw [← hV, show k = 0 from by omega]; rfl
          have loop_42 : ∀ (fuel : Nat) (k2 : Nat) (sg2 : UInt32) (ex2 : Int32) (hk2 : k2 ≤ 8) (hV2 : bl2 k2 (sg2, ex2) = bl2 8 (bl1 8 (x, nI 127))) (hT2 : ok2 k2 sg2 = true) (hm : k2 < fuel) (H : Heap) (locs : List Loc) (ls : Array Slot), ZW E A s [] H locs → lv_has ls 4 [(0, .float x), (1, .float sg2), (2, .int ex2), (3, .int (nI (8 - k2)))] → W p l e rmX5_bitsOf s m args below meth c H locs 0 0 Q (F0 m 42 ls []) := by
            intro fuel
            induction fuel with
            | zero => intro k2 sg2 ex2 hk2 hV2 hT2 hm; exact absurd hm (Nat.not_lt_zero _)
            | succ fuel ih_42 =>
              intro k2 sg2 ex2 hk2 hV2 hT2 hm H locs ls hw hl
              refine lv_iload_n hx hb dX5_bitsOf_42 rfl (lv_at hl 3 rfl) ?_
              refine lv_bipush (v := nI 8) hx hb dX5_bitsOf_43 (by decide) ?_
              refine z_icmp_ge hx hb (by omega) (by decide) 67 dX5_bitsOf_45 (by decide) (fun c_45 => ?_) (fun c_45 => ?_)
              · have hF_ : bl2 8 (bl1 8 (x, nI 127)) = (sg2, ex2) := by rw [← hV2, show k2 = 0 from by omega]; rfl
                have hB_ := hok2_.2
                rw [hF_] at hB_
                simp only [bokF, Bool.and_eq_true] at hB_
                refine lv_iload_n hx hb dX5_bitsOf_67 rfl (lv_at hl 2 rfl) ?_
                refine lv_bipush (v := nI 23) hx hb dX5_bitsOf_68 (by decide) ?_
                refine lv_ishl hx hb dX5_bitsOf_70 ?_
                refine lv_fload_n hx hb dX5_bitsOf_71 rfl (lv_at hl 1 rfl) ?_
                refine lv_fconst1 hx hb dX5_bitsOf_72 ?_
                refine lv_fsub hx hb dX5_bitsOf_73 (noN_of hB_.1) ?_
                refine lv_ldcf (v := 1258291200) hx hb hown (hts _ wd_229) dX5_bitsOf_74 ?_
                refine lv_fmul hx hb dX5_bitsOf_76 (noN_of hB_.2) ?_
                refine lv_f2i hx hb dX5_bitsOf_77 ?_
                refine lv_iadd hx hb dX5_bitsOf_78 ?_
                exact ret ((ex2 <<< ((nI 23) &&& 31)) + (FP.f2i (FP.fmul (FP.fsub sg2 FP.fconst1) 1258291200))) () 79 ls H locs dX5_bitsOf_79 (by rw [bres, if_pos c_3, hF_]; rfl) (hw)
              · refine lv_fload_n hx hb dX5_bitsOf_48 rfl (lv_at hl 1 rfl) ?_
                refine lv_fconst1 hx hb dX5_bitsOf_49 ?_
                refine lv_fcmp hx hb dX5_bitsOf_50 ?_
                refine lv_if_ge (tgt := 67) hx hb dX5_bitsOf_51 (by decide) (fun c_51 => ?_) (fun c_51 => ?_)
                · have hF_ : bl2 8 (bl1 8 (x, nI 127)) = (sg2, ex2) := by rw [← hV2]; cases k2 with
                    | zero => rfl
                    | succ k2 => simp only [bl2]; rw [if_pos c_51]
                  have hB_ := hok2_.2
                  rw [hF_] at hB_
                  simp only [bokF, Bool.and_eq_true] at hB_
                  refine lv_iload_n hx hb dX5_bitsOf_67 rfl (lv_at hl 2 rfl) ?_
                  refine lv_bipush (v := nI 23) hx hb dX5_bitsOf_68 (by decide) ?_
                  refine lv_ishl hx hb dX5_bitsOf_70 ?_
                  refine lv_fload_n hx hb dX5_bitsOf_71 rfl (lv_at hl 1 rfl) ?_
                  refine lv_fconst1 hx hb dX5_bitsOf_72 ?_
                  refine lv_fsub hx hb dX5_bitsOf_73 (noN_of hB_.1) ?_
                  refine lv_ldcf (v := 1258291200) hx hb hown (hts _ wd_229) dX5_bitsOf_74 ?_
                  refine lv_fmul hx hb dX5_bitsOf_76 (noN_of hB_.2) ?_
                  refine lv_f2i hx hb dX5_bitsOf_77 ?_
                  refine lv_iadd hx hb dX5_bitsOf_78 ?_
                  exact ret ((ex2 <<< ((nI 23) &&& 31)) + (FP.f2i (FP.fmul (FP.fsub sg2 FP.fconst1) 1258291200))) () 79 ls H locs dX5_bitsOf_79 (by rw [bres, if_pos c_3, hF_]; rfl) (hw)
                · obtain ⟨k2, rfl⟩ : ∃ j, k2 = j + 1 := ⟨k2 - 1, by omega⟩
                  refine lv_fload_n hx hb dX5_bitsOf_54 rfl (lv_at hl 1 rfl) ?_
                  refine lv_fconst2 hx hb dX5_bitsOf_55 ?_
                  refine lv_fmul hx hb dX5_bitsOf_56 (noN_of (by simp only [ok2] at hT2; rw [if_neg c_51] at hT2; exact (Bool.and_eq_true_iff.mp hT2).1)) ?_
                  refine lv_fstore_n (lv' := [(1, .float (FP.fmul sg2 FP.fconst2)), (0, .float x), (2, .int ex2), (3, .int (nI (8 - (k2 + 1))))]) hx hb dX5_bitsOf_57 rfl hl (by decide) rfl (fun ls hl => ?_)
                  refine lv_iinc (v := ex2 + (-1)) (lv' := [(2, .int (ex2 + (-1))), (1, .float (FP.fmul sg2 FP.fconst2)), (0, .float x), (3, .int (nI (8 - (k2 + 1))))]) hx hb dX5_bitsOf_58 hl (k := 2) rfl (rfl) (by decide) rfl (fun ls hl => ?_)
                  refine lv_iinc (v := nI (8 - (k2 + 1) + 1)) (lv' := [(3, .int (nI (8 - (k2 + 1) + 1))), (2, .int (ex2 + (-1))), (1, .float (FP.fmul sg2 FP.fconst2)), (0, .float x)]) hx hb dX5_bitsOf_61 hl (k := 3) rfl (nI_1 _) (by decide) rfl (fun ls hl => ?_)
                  refine lv_goto (tgt := 42) hx hb dX5_bitsOf_64 (by decide) ?_
                  exact ih_42 k2 (FP.fmul sg2 FP.fconst2) (ex2 + (-1)) (by omega) (by rw [← hV2]; simp only [bl2]; rw [if_neg c_51]) (by simp only [ok2] at hT2; rw [if_neg c_51] at hT2; exact (Bool.and_eq_true_iff.mp hT2).2) (by omega) _ _ ls (hw) (lv_add (lv_add (lv_add (lv_add (lv_nil hl) (lv_eqv (lv_at hl 0 rfl) (zN (by omega)))) (lv_at hl 1 rfl)) (lv_at hl 2 rfl)) (lv_at hl 3 rfl))
          exact loop_42 _ 8 sg ex (by omega) (by rw [hE_]) (by have h9 := hok2_.1; rw [hE_] at h9; exact h9) (Nat.lt_succ_self _) _ _ ls (hw) (lv_add (lv_add (lv_add (lv_add (lv_nil hl) (lv_eqv (lv_at hl 0 rfl) (zN (by rfl)))) (lv_at hl 3 rfl)) (lv_at hl 2 rfl)) (lv_at hl 1 rfl))
        · refine lv_fload_n hx hb dX5_bitsOf_21 rfl (lv_at hl 1 rfl) ?_
          refine lv_fconst2 hx hb dX5_bitsOf_22 ?_
          refine lv_fcmp hx hb dX5_bitsOf_23 ?_
          refine lv_if_lt (tgt := 40) hx hb dX5_bitsOf_24 (by decide) (fun c_24 => ?_) (fun c_24 => ?_)
          · refine lv_iconst (v := nI 0) hx hb dX5_bitsOf_40 (by decide) ?_
            refine lv_istore_n (lv' := [(3, .int (nI 0)), (0, .float x), (1, .float sg), (2, .int ex)]) hx hb dX5_bitsOf_41 rfl hl (by decide) rfl (fun ls hl => ?_)
            have hE_ : bl1 8 (x, nI 127) = (sg, ex) := by rw [← hV]; cases k with
              | zero => rfl
              | succ k => simp only [bl1]; rw [if_pos c_24]
            have loop_42 : ∀ (fuel : Nat) (k2 : Nat) (sg2 : UInt32) (ex2 : Int32) (hk2 : k2 ≤ 8) (hV2 : bl2 k2 (sg2, ex2) = bl2 8 (bl1 8 (x, nI 127))) (hT2 : ok2 k2 sg2 = true) (hm : k2 < fuel) (H : Heap) (locs : List Loc) (ls : Array Slot), ZW E A s [] H locs → lv_has ls 4 [(0, .float x), (1, .float sg2), (2, .int ex2), (3, .int (nI (8 - k2)))] → W p l e rmX5_bitsOf s m args below meth c H locs 0 0 Q (F0 m 42 ls []) := by
              intro fuel
              induction fuel with
              | zero => intro k2 sg2 ex2 hk2 hV2 hT2 hm; exact absurd hm (Nat.not_lt_zero _)
              | succ fuel ih_42 =>
                intro k2 sg2 ex2 hk2 hV2 hT2 hm H locs ls hw hl
                refine lv_iload_n hx hb dX5_bitsOf_42 rfl (lv_at hl 3 rfl) ?_
                refine lv_bipush (v := nI 8) hx hb dX5_bitsOf_43 (by decide) ?_
                refine z_icmp_ge hx hb (by omega) (by decide) 67 dX5_bitsOf_45 (by decide) (fun c_45 => ?_) (fun c_45 => ?_)
                · have hF_ : bl2 8 (bl1 8 (x, nI 127)) = (sg2, ex2) := by rw [← hV2, show k2 = 0 from by omega]; rfl
                  have hB_ := hok2_.2
                  rw [hF_] at hB_
                  simp only [bokF, Bool.and_eq_true] at hB_
                  refine lv_iload_n hx hb dX5_bitsOf_67 rfl (lv_at hl 2 rfl) ?_
                  refine lv_bipush (v := nI 23) hx hb dX5_bitsOf_68 (by decide) ?_
                  refine lv_ishl hx hb dX5_bitsOf_70 ?_
                  refine lv_fload_n hx hb dX5_bitsOf_71 rfl (lv_at hl 1 rfl) ?_
                  refine lv_fconst1 hx hb dX5_bitsOf_72 ?_
                  refine lv_fsub hx hb dX5_bitsOf_73 (noN_of hB_.1) ?_
                  refine lv_ldcf (v := 1258291200) hx hb hown (hts _ wd_229) dX5_bitsOf_74 ?_
                  refine lv_fmul hx hb dX5_bitsOf_76 (noN_of hB_.2) ?_
                  refine lv_f2i hx hb dX5_bitsOf_77 ?_
                  refine lv_iadd hx hb dX5_bitsOf_78 ?_
                  exact ret ((ex2 <<< ((nI 23) &&& 31)) + (FP.f2i (FP.fmul (FP.fsub sg2 FP.fconst1) 1258291200))) () 79 ls H locs dX5_bitsOf_79 (by rw [bres, if_pos c_3, hF_]; rfl) (hw)
                · refine lv_fload_n hx hb dX5_bitsOf_48 rfl (lv_at hl 1 rfl) ?_
                  refine lv_fconst1 hx hb dX5_bitsOf_49 ?_
                  refine lv_fcmp hx hb dX5_bitsOf_50 ?_
                  refine lv_if_ge (tgt := 67) hx hb dX5_bitsOf_51 (by decide) (fun c_51 => ?_) (fun c_51 => ?_)
                  · have hF_ : bl2 8 (bl1 8 (x, nI 127)) = (sg2, ex2) := by rw [← hV2]; cases k2 with
                      | zero => rfl
                      | succ k2 => simp only [bl2]; rw [if_pos c_51]
                    have hB_ := hok2_.2
                    rw [hF_] at hB_
                    simp only [bokF, Bool.and_eq_true] at hB_
                    refine lv_iload_n hx hb dX5_bitsOf_67 rfl (lv_at hl 2 rfl) ?_
                    refine lv_bipush (v := nI 23) hx hb dX5_bitsOf_68 (by decide) ?_
                    refine lv_ishl hx hb dX5_bitsOf_70 ?_
                    refine lv_fload_n hx hb dX5_bitsOf_71 rfl (lv_at hl 1 rfl) ?_
                    refine lv_fconst1 hx hb dX5_bitsOf_72 ?_
                    refine lv_fsub hx hb dX5_bitsOf_73 (noN_of hB_.1) ?_
                    refine lv_ldcf (v := 1258291200) hx hb hown (hts _ wd_229) dX5_bitsOf_74 ?_
                    refine lv_fmul hx hb dX5_bitsOf_76 (noN_of hB_.2) ?_
                    refine lv_f2i hx hb dX5_bitsOf_77 ?_
                    refine lv_iadd hx hb dX5_bitsOf_78 ?_
                    exact ret ((ex2 <<< ((nI 23) &&& 31)) + (FP.f2i (FP.fmul (FP.fsub sg2 FP.fconst1) 1258291200))) () 79 ls H locs dX5_bitsOf_79 (by rw [bres, if_pos c_3, hF_]; rfl) (hw)
                  · obtain ⟨k2, rfl⟩ : ∃ j, k2 = j + 1 := ⟨k2 - 1, by omega⟩
                    refine lv_fload_n hx hb dX5_bitsOf_54 rfl (lv_at hl 1 rfl) ?_
                    refine lv_fconst2 hx hb dX5_bitsOf_55 ?_
                    refine lv_fmul hx hb dX5_bitsOf_56 (noN_of (by simp only [ok2] at hT2; rw [if_neg c_51] at hT2; exact (Bool.and_eq_true_iff.mp hT2).1)) ?_
                    refine lv_fstore_n (lv' := [(1, .float (FP.fmul sg2 FP.fconst2)), (0, .float x), (2, .int ex2), (3, .int (nI (8 - (k2 + 1))))]) hx hb dX5_bitsOf_57 rfl hl (by decide) rfl (fun ls hl => ?_)
                    refine lv_iinc (v := ex2 + (-1)) (lv' := [(2, .int (ex2 + (-1))), (1, .float (FP.fmul sg2 FP.fconst2)), (0, .float x), (3, .int (nI (8 - (k2 + 1))))]) hx hb dX5_bitsOf_58 hl (k := 2) rfl (rfl) (by decide) rfl (fun ls hl => ?_)
                    refine lv_iinc (v := nI (8 - (k2 + 1) + 1)) (lv' := [(3, .int (nI (8 - (k2 + 1) + 1))), (2, .int (ex2 + (-1))), (1, .float (FP.fmul sg2 FP.fconst2)), (0, .float x)]) hx hb dX5_bitsOf_61 hl (k := 3) rfl (nI_1 _) (by decide) rfl (fun ls hl => ?_)
                    refine lv_goto (tgt := 42) hx hb dX5_bitsOf_64 (by decide) ?_
                    exact ih_42 k2 (FP.fmul sg2 FP.fconst2) (ex2 + (-1)) (by omega) (by rw [← hV2]; simp only [bl2]; rw [if_neg c_51]) (by simp only [ok2] at hT2; rw [if_neg c_51] at hT2; exact (Bool.and_eq_true_iff.mp hT2).2) (by omega) _ _ ls (hw) (lv_add (lv_add (lv_add (lv_add (lv_nil hl) (lv_eqv (lv_at hl 0 rfl) (zN (by omega)))) (lv_at hl 1 rfl)) (lv_at hl 2 rfl)) (lv_at hl 3 rfl))
            exact loop_42 _ 8 sg ex (by omega) (by rw [hE_]) (by have h9 := hok2_.1; rw [hE_] at h9; exact h9) (Nat.lt_succ_self _) _ _ ls (hw) (lv_add (lv_add (lv_add (lv_add (lv_nil hl) (lv_eqv (lv_at hl 0 rfl) (zN (by rfl)))) (lv_at hl 3 rfl)) (lv_at hl 2 rfl)) (lv_at hl 1 rfl))
          · obtain ⟨k, rfl⟩ : ∃ j, k = j + 1 := ⟨k - 1, by omega⟩
            refine lv_fload_n hx hb dX5_bitsOf_27 rfl (lv_at hl 1 rfl) ?_
            refine lv_fconst2 hx hb dX5_bitsOf_28 ?_
            refine lv_fdiv hx hb dX5_bitsOf_29 (noN_of (by simp only [ok1] at hT; rw [if_neg c_24] at hT; exact (Bool.and_eq_true_iff.mp hT).1)) ?_
            refine lv_fstore_n (lv' := [(1, .float (FP.fdiv sg FP.fconst2)), (0, .float x), (2, .int ex), (3, .int (nI (8 - (k + 1))))]) hx hb dX5_bitsOf_30 rfl hl (by decide) rfl (fun ls hl => ?_)
            refine lv_iinc (v := ex + (1)) (lv' := [(2, .int (ex + (1))), (1, .float (FP.fdiv sg FP.fconst2)), (0, .float x), (3, .int (nI (8 - (k + 1))))]) hx hb dX5_bitsOf_31 hl (k := 2) rfl (rfl) (by decide) rfl (fun ls hl => ?_)
            refine lv_iinc (v := nI (8 - (k + 1) + 1)) (lv' := [(3, .int (nI (8 - (k + 1) + 1))), (2, .int (ex + (1))), (1, .float (FP.fdiv sg FP.fconst2)), (0, .float x)]) hx hb dX5_bitsOf_34 hl (k := 3) rfl (nI_1 _) (by decide) rfl (fun ls hl => ?_)
            refine lv_goto (tgt := 15) hx hb dX5_bitsOf_37 (by decide) ?_
            exact ih_15 k (FP.fdiv sg FP.fconst2) (ex + (1)) (by omega) (by rw [← hV]; simp only [bl1]; rw [if_neg c_24]) (by simp only [ok1] at hT; rw [if_neg c_24] at hT; exact (Bool.and_eq_true_iff.mp hT).2) (by omega) _ _ ls (hw) (lv_add (lv_add (lv_add (lv_add (lv_nil hl) (lv_eqv (lv_at hl 0 rfl) (zN (by omega)))) (lv_at hl 1 rfl)) (lv_at hl 2 rfl)) (lv_at hl 3 rfl))
    exact loop_15 _ 8 x (nI 127) (by omega) (rfl) (hok1_) (Nat.lt_succ_self _) _ _ ls (hw) (lv_add (lv_add (lv_add (lv_add (lv_nil hl) (lv_eqv (lv_at hl 0 rfl) (zN (by rfl)))) (lv_eqv (lv_at hl 1 rfl) (zI (by rfl)))) (lv_at hl 2 rfl)) (lv_at hl 3 rfl))
  · refine lv_iconst (v := nI 0) hx hb dX5_bitsOf_6 (by decide) ?_
    exact ret (nI 0) () 7 ls s.heap [] dX5_bitsOf_7 (by rw [bres, if_neg c_3]) (hw)

def rmX5_meanWearBits : Room := { frames := 2, cells := 0, slots := 0, locals := 46 }
set_option maxHeartbeats 4000000 in
set_option maxRecDepth 100000 in
theorem c_X5_meanWearBits (l : Launch) (E : ZE) (h0 hS hH hC hG hR : Nat) (q : Nat) (F : Nat → Nat) (n : Nat) (sd x : Int32) (hn : n ≤ 24) (hF : ∀ j, F j < 10) (hW : ∀ k sd, k < 24 → sd < 2 → F (4 * k + 2 + sd) ≤ 5) : ZMi l yX5_meanWearBits cX5_meanWearBits 4 (some .int) rmX5_meanWearBits E [.ref h0, .int sd, .int x] [(h0, ob 5 [.ref hS, .ref hH, .ref hC, .ref hG, .ref hR]), (hS, ob 4 [.ref q, .int (nI n)]), (q, ia E 96 (nA F))] (S := Unit) (fun r _ => r = mwR F n sd x) (fun _ => [(h0, ob 5 [.ref hS, .ref hH, .ref hC, .ref hG, .ref hR]), (hS, ob 4 [.ref q, .int (nI n)]), (q, ia E 96 (nA F))]) := by
  refine z_mi (by decide) (Nat.le_of_ble_eq_true rfl) ?_
  intro p e s m args below meth c A Q ls cx hin hw hl ret
  obtain ⟨hx, hb, hml, hown, hts, hK, hN, hA, hlk⟩ := id cx
  have hl : lv_has ls 4 [(0, .ref h0), (1, .int sd), (2, .int x)] := hl
  refine lv_iload_n hx hb dX5_meanWearBits_0 rfl (lv_at hl 1 rfl) ?_
  refine z_ri0 (wr := [(h0, ob 5 [.ref hS, .ref hH, .ref hC, .ref hG, .ref hR]), (hS, ob 4 [.ref q, .int (nI n)]), (q, ia E 96 (nA F))]) cx hw [] [0, 1, 2] rfl rfl (by decide) (by decide) rfl rfl (z_runS (As := [.int sd]) (rest := []) cx hw [] rfl rfl (c_X5_isSide l E sd  s.heap.size) mf_X5_isSide wd_139 ⟨Nat.le_of_ble_eq_true rfl, Nat.le_of_ble_eq_true rfl⟩ hl (Nat.le_of_ble_eq_true rfl) dX5_meanWearBits_1 ⟨Nat.le_of_ble_eq_true rfl, Nat.le_of_ble_eq_true rfl⟩) (fun r _ H locs hp hw => ?_)
  have hr_1 := hp
  have hr_1 : r = bI (inR sd 2) := hr_1
  subst hr_1
  have hw : ZW E A s [(h0, ob 5 [.ref hS, .ref hH, .ref hC, .ref hG, .ref hR]), (hS, ob 4 [.ref q, .int (nI n)]), (q, ia E 96 (nA F))] H locs := hw
  refine z_ifb_eq hx hb 14 dX5_meanWearBits_4 (by decide) (fun c_4 => ?_) (fun c_4 => ?_)
  · refine lv_iconst (v := (-1)) hx hb dX5_meanWearBits_14 (by decide) ?_
    exact ret ((-1)) () 15 ls H locs dX5_meanWearBits_15 (by simp [mwR, c_4]) (hw)
  · obtain ⟨t, ht, rfl⟩ := inR_get c_4 (by omega)
    refine lv_iload_n hx hb dX5_meanWearBits_7 rfl (lv_at hl 2 rfl) ?_
    refine z_ri0 (wr := [(h0, ob 5 [.ref hS, .ref hH, .ref hC, .ref hG, .ref hR]), (hS, ob 4 [.ref q, .int (nI n)]), (q, ia E 96 (nA F))]) cx hw [] [0, 1, 2] rfl rfl (by decide) (by decide) rfl rfl (z_runS (As := [.int x]) (rest := []) cx hw [] rfl rfl (c_X5_isDie l E x  H.size) mf_X5_isDie wd_85 ⟨Nat.le_of_ble_eq_true rfl, Nat.le_of_ble_eq_true rfl⟩ hl (Nat.le_of_ble_eq_true rfl) dX5_meanWearBits_8 ⟨Nat.le_of_ble_eq_true rfl, Nat.le_of_ble_eq_true rfl⟩) (fun r _ H locs hp hw => ?_)
    have hr_8 := hp
    have hr_8 : r = bI (inR x 10) := hr_8
    subst hr_8
    have hw : ZW E A s [(h0, ob 5 [.ref hS, .ref hH, .ref hC, .ref hG, .ref hR]), (hS, ob 4 [.ref q, .int (nI n)]), (q, ia E 96 (nA F))] H locs := hw
    refine z_ifb_ne hx hb 16 dX5_meanWearBits_11 (by decide) (fun c_11 => ?_) (fun c_11 => ?_)
    · obtain ⟨a2, ha, rfl⟩ := inR_get c_11 (by omega)
      refine lv_aload_n hx hb dX5_meanWearBits_16 rfl (lv_at hl 0 rfl) ?_
      refine z_get cx hw 0 0 rfl rfl inlX5 (by decide) wd_15 rfl dX5_meanWearBits_17 ?_
      refine lv_iload_n hx hb dX5_meanWearBits_20 rfl (lv_at hl 1 rfl) ?_
      refine lv_iload_n hx hb dX5_meanWearBits_21 rfl (lv_at hl 2 rfl) ?_
      refine z_ri0 (wr := [(h0, ob 5 [.ref hS, .ref hH, .ref hC, .ref hG, .ref hR])]) cx hw [1, 2] [0] rfl rfl (by decide) (by decide) rfl rfl (z_runVN (As := [.int (nI t), .int (nI a2)]) (rest := []) cx hw rfl rfl [1, 2] rfl rfl (c_X4_struckWith l E hS q F n t a2 (by omega) (hF) (by omega) (by omega) H.size) mf_X4_struckWith (nm_X5_80 hN) ⟨Nat.le_of_ble_eq_true rfl, Nat.le_of_ble_eq_true rfl⟩ hl (Nat.le_of_ble_eq_true rfl) dX5_meanWearBits_22 ⟨Nat.le_of_ble_eq_true rfl, Nat.le_of_ble_eq_true rfl⟩) (fun r _ H locs hp hw => ?_)
      have hr_22 := hp
      have hr_22 : r = nI (cnt F t a2 n) := hr_22
      subst hr_22
      have hw : ZW E A s [(h0, ob 5 [.ref hS, .ref hH, .ref hC, .ref hG, .ref hR]), (hS, ob 4 [.ref q, .int (nI n)]), (q, ia E 96 (nA F))] H locs := hw
      refine lv_istore_n (lv' := [(3, .int (nI (cnt F t a2 n))), (0, .ref h0), (1, .int (nI t)), (2, .int (nI a2))]) hx hb dX5_meanWearBits_25 rfl hl (by decide) rfl (fun ls hl => ?_)
      refine lv_iload_n hx hb dX5_meanWearBits_26 rfl (lv_at hl 0 rfl) ?_
      have hc_ := cnt_le F t a2 n
      refine z_if_ne hx hb (by omega) 33 dX5_meanWearBits_27 (by decide) (fun c_27 => ?_) (fun c_27 => ?_)
      · refine lv_aload_n hx hb dX5_meanWearBits_33 rfl (lv_at hl 1 rfl) ?_
        refine z_get cx hw 0 0 rfl rfl inlX5 (by decide) wd_15 rfl dX5_meanWearBits_34 ?_
        refine lv_iload_n hx hb dX5_meanWearBits_37 rfl (lv_at hl 2 rfl) ?_
        refine lv_iload_n hx hb dX5_meanWearBits_38 rfl (lv_at hl 3 rfl) ?_
        refine z_ri0 (wr := [(h0, ob 5 [.ref hS, .ref hH, .ref hC, .ref hG, .ref hR])]) cx hw [1, 2] [0] rfl rfl (by decide) (by decide) rfl rfl (z_runVN (As := [.int (nI t), .int (nI a2)]) (rest := []) cx hw rfl rfl [1, 2] rfl rfl (c_X4_wearSum l E hS q F n t a2 (by omega) (hF) (by omega) (by omega) H.size) mf_X4_wearSum (nm_X5_94 hN) ⟨Nat.le_of_ble_eq_true rfl, Nat.le_of_ble_eq_true rfl⟩ hl (Nat.le_of_ble_eq_true rfl) dX5_meanWearBits_39 ⟨Nat.le_of_ble_eq_true rfl, Nat.le_of_ble_eq_true rfl⟩) (fun r _ H locs hp hw => ?_)
        have hr_39 := hp
        have hr_39 : r = nI (wsum F t a2 n) := hr_39
        subst hr_39
        have hw : ZW E A s [(h0, ob 5 [.ref hS, .ref hH, .ref hC, .ref hG, .ref hR]), (hS, ob 4 [.ref q, .int (nI n)]), (q, ia E 96 (nA F))] H locs := hw
        refine lv_i2f hx hb dX5_meanWearBits_42 ?_
        refine lv_iload_n hx hb dX5_meanWearBits_43 rfl (lv_at hl 0 rfl) ?_
        refine lv_i2f hx hb dX5_meanWearBits_44 ?_
        have hm_ := mw_ok (a := wsum F t a2 n) c_27 (by omega) (wsum_le (fun k hk => hW k t (by omega) ht))
        refine lv_fdiv hx hb dX5_meanWearBits_45 (noN_of hm_.1) ?_
        refine z_ri0 (wr := [(h0, ob 5 [.ref hS, .ref hH, .ref hC, .ref hG, .ref hR]), (hS, ob 4 [.ref q, .int (nI n)]), (q, ia E 96 (nA F))]) cx hw [] [0, 1, 2] rfl rfl (by decide) (by decide) rfl rfl (z_runS (As := [.float (FP.fdiv (FP.i2f (nI (wsum F t a2 n))) (FP.i2f (nI (cnt F t a2 n))))]) (rest := []) cx hw [] rfl rfl (c_X5_bitsOf l E (FP.fdiv (FP.i2f (nI (wsum F t a2 n))) (FP.i2f (nI (cnt F t a2 n)))) (hm_.2.1) H.size) mf_X5_bitsOf wd_226 ⟨Nat.le_of_ble_eq_true rfl, Nat.le_of_ble_eq_true rfl⟩ hl (Nat.le_of_ble_eq_true rfl) dX5_meanWearBits_46 ⟨Nat.le_of_ble_eq_true rfl, Nat.le_of_ble_eq_true rfl⟩) (fun r _ H locs hp hw => ?_)
        have hr_46 := hp
        have hr_46 : r = bres (FP.fdiv (FP.i2f (nI (wsum F t a2 n))) (FP.i2f (nI (cnt F t a2 n)))) := hr_46
        subst hr_46
        have hw : ZW E A s [(h0, ob 5 [.ref hS, .ref hH, .ref hC, .ref hG, .ref hR]), (hS, ob 4 [.ref q, .int (nI n)]), (q, ia E 96 (nA F))] H locs := hw
        exact ret (bres (FP.fdiv (FP.i2f (nI (wsum F t a2 n))) (FP.i2f (nI (cnt F t a2 n))))) () 49 ls H locs dX5_meanWearBits_49 (by rw [mwR, if_pos (by rw [c_4, c_11]; rfl), cl_nI ht (by decide), cl_nI ha (by decide), if_neg (by omega)]; exact hm_.2.2.2) (hw)
      · refine lv_bipush (v := (-3)) hx hb dX5_meanWearBits_30 (by decide) ?_
        exact ret ((-3)) () 32 ls H locs dX5_meanWearBits_32 (by rw [mwR, if_pos (by rw [c_4, c_11]; rfl), cl_nI ht (by decide), cl_nI ha (by decide), if_pos c_27]) (hw)
    · refine lv_iconst (v := (-1)) hx hb dX5_meanWearBits_14 (by decide) ?_
      exact ret ((-1)) () 15 ls H locs dX5_meanWearBits_15 (by simp [mwR, c_11]) (hw)

def rmX6_bits : Room := { frames := 0, cells := 0, slots := 0, locals := 0 }
set_option maxHeartbeats 4000000 in
set_option maxRecDepth 100000 in
theorem c_X6_bits (l : Launch) (E : ZE) (a b : Nat) (hok : mokM a b = true) (ha : a < 1000) : ZMi l yX6_bits cX6_bits 9 (some .int) rmX6_bits E [.int (nI a), .int (nI b)] [] (S := Unit) (fun r _ => r = bitsM a b) (fun _ => []) := by
  refine z_mi (by decide) (Nat.le_of_ble_eq_true rfl) ?_
  intro p e s m args below meth c A Q ls cx hin hw hl ret
  obtain ⟨hx, hb, hml, hown, hts, hK, hN, hA, hlk⟩ := id cx
  have hl : lv_has ls 9 [(0, .int (nI a)), (1, .int (nI b))] := hl
  refine lv_iload_n hx hb dX6_bits_0 rfl (lv_at hl 0 rfl) ?_
  refine z_if_ne hx hb (by omega) 6 dX6_bits_1 (by decide) (fun c_1 => ?_) (fun c_1 => ?_)
  · refine lv_iconst (v := nI 0) hx hb dX6_bits_6 (by decide) ?_
    refine lv_istore_n (lv' := [(2, .int (nI 0)), (0, .int (nI a)), (1, .int (nI b))]) hx hb dX6_bits_7 rfl hl (by decide) rfl (fun ls hl => ?_)
    have hok9_ := hok
    simp only [mokM] at hok9_
    rw [if_neg (by omega)] at hok9_
    simp only [Bool.and_eq_true, decide_eq_true_eq] at hok9_
    have loop_8 : ∀ (fuel : Nat) (kf : Nat) (ex : Int32) (hT : tu a b kf ex = true) (hV : bu a b kf ex = bu a b 12 (nI 0)) (hm : kf < fuel) (H : Heap) (locs : List Loc) (ls : Array Slot), ZW E A s [] H locs → lv_has ls 9 [(0, .int (nI a)), (1, .int (nI b)), (2, .int ex)] → W p l e rmX6_bits s m args below meth c H locs 0 0 Q (F0 m 8 ls []) := by
      intro fuel
      induction fuel with
      | zero => intro kf ex hT hV hm; exact absurd hm (Nat.not_lt_zero _)
      | succ fuel ih_8 =>
        intro kf ex hT hV hm H locs ls hw hl
        refine lv_iload_n hx hb dX6_bits_8 rfl (lv_at hl 0 rfl) ?_
        refine lv_iload_n hx hb dX6_bits_9 rfl (lv_at hl 1 rfl) ?_
        refine lv_iload_n hx hb dX6_bits_10 rfl (lv_at hl 2 rfl) ?_
        refine lv_iconst (v := nI 1) hx hb dX6_bits_11 (by decide) ?_
        refine lv_iadd hx hb dX6_bits_12 ?_
        refine lv_ishl hx hb dX6_bits_13 ?_
        refine lv_icmp_lt (tgt := 23) hx hb dX6_bits_14 (by decide) (fun c_14 => ?_) (fun c_14 => ?_)
        · have hE_ : bu a b 12 (nI 0) = ex := by
            rw [← hV]
            cases kf with
            | zero => simp [tu] at hT
            | succ kf => simp only [bu]; rw [if_pos c_14]
          have loop_23 : ∀ (fuel : Nat) (kg : Nat) (ey : Int32) (hT2 : tdn a b kg ey = true) (hV2 : bdn a b kg ey = bEx a b) (hm : kg < fuel) (H : Heap) (locs : List Loc) (ls : Array Slot), ZW E A s [] H locs → lv_has ls 9 [(0, .int (nI a)), (1, .int (nI b)), (2, .int ey)] → W p l e rmX6_bits s m args below meth c H locs 0 0 Q (F0 m 23 ls []) := by
            intro fuel
            induction fuel with
            | zero => intro kg ey hT2 hV2 hm; exact absurd hm (Nat.not_lt_zero _)
            | succ fuel ih_23 =>
              intro kg ey hT2 hV2 hm H locs ls hw hl
              refine lv_iload_n hx hb dX6_bits_23 rfl (lv_at hl 2 rfl) ?_
              refine lv_if_gt (tgt := 41) hx hb dX6_bits_24 (by decide) (fun c_24 => ?_) (fun c_24 => ?_)
              · have hF_ : bEx a b = ey := by
                  rw [← hV2]
                  cases kg with
                  | zero => rfl
                  | succ kg => simp only [bdn]; rw [if_pos c_24]
                refine lv_iload_n hx hb dX6_bits_41 rfl (lv_at hl 0 rfl) ?_
                refine lv_i2l (v := (nI a).toInt64) hx hb dX6_bits_42 rfl ?_
                refine lv_bipush (v := nI 23) hx hb dX6_bits_43 (by decide) ?_
                refine lv_iload_n hx hb dX6_bits_45 rfl (lv_at hl 2 rfl) ?_
                refine lv_isub hx hb dX6_bits_46 ?_
                refine lv_lshl (v := ((nI a).toInt64) <<< (((nI 23) - ey).toInt64 &&& 63)) hx hb dX6_bits_47 rfl ?_
                refine lv_lstore_n (lv' := [(3, .long (((nI a).toInt64) <<< (((nI 23) - ey).toInt64 &&& 63))), (0, .int (nI a)), (1, .int (nI b)), (2, .int ey)]) hx hb dX6_bits_48 rfl hl (by decide) rfl (fun ls hl => ?_)
                refine lv_lload_n hx hb dX6_bits_49 rfl (lv_at hl 0 rfl) ?_
                refine lv_iload_n hx hb dX6_bits_50 rfl (lv_at hl 2 rfl) ?_
                refine lv_i2l (v := (nI b).toInt64) hx hb dX6_bits_51 rfl ?_
                refine lv_ldiv hx hb dX6_bits_52 (hok9_.2.2) ?_
                refine lv_lstore (lv' := [(5, .long ((((nI a).toInt64) <<< (((nI 23) - ey).toInt64 &&& 63)) / ((nI b).toInt64))), (3, .long (((nI a).toInt64) <<< (((nI 23) - ey).toInt64 &&& 63))), (0, .int (nI a)), (1, .int (nI b)), (2, .int ey)]) hx hb dX6_bits_53 hl (by decide) rfl (fun ls hl => ?_)
                refine lv_ldc2 (v := 2) hx hb hown (hts _ wd_237) dX6_bits_55 ?_
                refine lv_lload_n hx hb dX6_bits_58 rfl (lv_at hl 1 rfl) ?_
                refine lv_iload_n hx hb dX6_bits_59 rfl (lv_at hl 3 rfl) ?_
                refine lv_i2l (v := (nI b).toInt64) hx hb dX6_bits_60 rfl ?_
                refine lv_lrem hx hb dX6_bits_61 (hok9_.2.2) ?_
                refine lv_lmul hx hb dX6_bits_62 ?_
                refine lv_lstore (lv' := [(7, .long (2 * ((((nI a).toInt64) <<< (((nI 23) - ey).toInt64 &&& 63)) - (((nI a).toInt64) <<< (((nI 23) - ey).toInt64 &&& 63)) / ((nI b).toInt64) * ((nI b).toInt64)))), (5, .long ((((nI a).toInt64) <<< (((nI 23) - ey).toInt64 &&& 63)) / ((nI b).toInt64))), (3, .long (((nI a).toInt64) <<< (((nI 23) - ey).toInt64 &&& 63))), (0, .int (nI a)), (1, .int (nI b)), (2, .int ey)]) hx hb dX6_bits_63 hl (by decide) rfl (fun ls hl => ?_)
                refine lv_lload hx hb dX6_bits_65 (lv_at hl 1 rfl) ?_
                refine lv_lload hx hb dX6_bits_67 (lv_at hl 0 rfl) ?_
                refine lv_iload_n hx hb dX6_bits_69 rfl (lv_at hl 4 rfl) ?_
                refine lv_i2l (v := (nI b).toInt64) hx hb dX6_bits_70 rfl ?_
                refine W.lcmp hx hb dX6_bits_71 ?_
                refine lv_if_gt (tgt := 94) hx hb dX6_bits_72 (by decide) (fun c_72 => ?_) (fun c_72 => ?_)
                · refine lv_lconst (v := 1) hx hb dX6_bits_94 (by decide) ?_
                  refine lv_goto (tgt := 99) hx hb dX6_bits_95 (by decide) ?_
                  refine lv_ladd hx hb dX6_bits_99 ?_
                  refine lv_lstore (lv' := [(5, .long (((((nI a).toInt64) <<< (((nI 23) - ey).toInt64 &&& 63)) / ((nI b).toInt64)) + 1)), (7, .long (2 * ((((nI a).toInt64) <<< (((nI 23) - ey).toInt64 &&& 63)) - (((nI a).toInt64) <<< (((nI 23) - ey).toInt64 &&& 63)) / ((nI b).toInt64) * ((nI b).toInt64)))), (3, .long (((nI a).toInt64) <<< (((nI 23) - ey).toInt64 &&& 63))), (0, .int (nI a)), (1, .int (nI b)), (2, .int ey)]) hx hb dX6_bits_100 hl (by decide) rfl (fun ls hl => ?_)
                  refine lv_bipush (v := nI 126) hx hb dX6_bits_102 (by decide) ?_
                  refine lv_iload_n hx hb dX6_bits_104 rfl (lv_at hl 5 rfl) ?_
                  refine lv_iadd hx hb dX6_bits_105 ?_
                  refine lv_bipush (v := nI 23) hx hb dX6_bits_106 (by decide) ?_
                  refine lv_ishl hx hb dX6_bits_108 ?_
                  refine lv_lload hx hb dX6_bits_109 (lv_at hl 0 rfl) ?_
                  refine lv_l2i (v := (((((nI a).toInt64) <<< (((nI 23) - ey).toInt64 &&& 63)) / ((nI b).toInt64)) + 1).toInt32) hx hb dX6_bits_111 rfl ?_
                  refine lv_iadd hx hb dX6_bits_112 ?_
                  exact ret ((((nI 126) + ey) <<< ((nI 23) &&& 31)) + ((((((nI a).toInt64) <<< (((nI 23) - ey).toInt64 &&& 63)) / ((nI b).toInt64)) + 1).toInt32)) () 113 ls H locs dX6_bits_113 (by rw [bitsM, if_neg (by omega), hF_, bMf, bRd, if_pos c_72]) (hw)
                · refine lv_lload hx hb dX6_bits_75 (lv_at hl 0 rfl) ?_
                  refine lv_iload_n hx hb dX6_bits_77 rfl (lv_at hl 4 rfl) ?_
                  refine lv_i2l (v := (nI b).toInt64) hx hb dX6_bits_78 rfl ?_
                  refine W.lcmp hx hb dX6_bits_79 ?_
                  refine lv_if_ne (tgt := 98) hx hb dX6_bits_80 (by decide) (fun c_80 => ?_) (fun c_80 => ?_)
                  · refine lv_lconst (v := 0) hx hb dX6_bits_98 (by decide) ?_
                    refine lv_ladd hx hb dX6_bits_99 ?_
                    refine lv_lstore (lv' := [(5, .long (((((nI a).toInt64) <<< (((nI 23) - ey).toInt64 &&& 63)) / ((nI b).toInt64)) + 0)), (7, .long (2 * ((((nI a).toInt64) <<< (((nI 23) - ey).toInt64 &&& 63)) - (((nI a).toInt64) <<< (((nI 23) - ey).toInt64 &&& 63)) / ((nI b).toInt64) * ((nI b).toInt64)))), (3, .long (((nI a).toInt64) <<< (((nI 23) - ey).toInt64 &&& 63))), (0, .int (nI a)), (1, .int (nI b)), (2, .int ey)]) hx hb dX6_bits_100 hl (by decide) rfl (fun ls hl => ?_)
                    refine lv_bipush (v := nI 126) hx hb dX6_bits_102 (by decide) ?_
                    refine lv_iload_n hx hb dX6_bits_104 rfl (lv_at hl 5 rfl) ?_
                    refine lv_iadd hx hb dX6_bits_105 ?_
                    refine lv_bipush (v := nI 23) hx hb dX6_bits_106 (by decide) ?_
                    refine lv_ishl hx hb dX6_bits_108 ?_
                    refine lv_lload hx hb dX6_bits_109 (lv_at hl 0 rfl) ?_
                    refine lv_l2i (v := (((((nI a).toInt64) <<< (((nI 23) - ey).toInt64 &&& 63)) / ((nI b).toInt64)) + 0).toInt32) hx hb dX6_bits_111 rfl ?_
                    refine lv_iadd hx hb dX6_bits_112 ?_
                    exact ret ((((nI 126) + ey) <<< ((nI 23) &&& 31)) + ((((((nI a).toInt64) <<< (((nI 23) - ey).toInt64 &&& 63)) / ((nI b).toInt64)) + 0).toInt32)) () 113 ls H locs dX6_bits_113 (by rw [bitsM, if_neg (by omega), hF_, bMf, bRd, if_neg c_72, if_pos c_80]) (hw)
                  · refine lv_lload hx hb dX6_bits_83 (lv_at hl 1 rfl) ?_
                    refine lv_ldc2 (v := 2) hx hb hown (hts _ wd_237) dX6_bits_85 ?_
                    refine lv_lrem hx hb dX6_bits_88 (by decide) ?_
                    refine lv_lconst (v := 1) hx hb dX6_bits_89 (by decide) ?_
                    refine W.lcmp hx hb dX6_bits_90 ?_
                    refine lv_if_ne (tgt := 98) hx hb dX6_bits_91 (by decide) (fun c_91 => ?_) (fun c_91 => ?_)
                    · refine lv_lconst (v := 0) hx hb dX6_bits_98 (by decide) ?_
                      refine lv_ladd hx hb dX6_bits_99 ?_
                      refine lv_lstore (lv' := [(5, .long (((((nI a).toInt64) <<< (((nI 23) - ey).toInt64 &&& 63)) / ((nI b).toInt64)) + 0)), (7, .long (2 * ((((nI a).toInt64) <<< (((nI 23) - ey).toInt64 &&& 63)) - (((nI a).toInt64) <<< (((nI 23) - ey).toInt64 &&& 63)) / ((nI b).toInt64) * ((nI b).toInt64)))), (3, .long (((nI a).toInt64) <<< (((nI 23) - ey).toInt64 &&& 63))), (0, .int (nI a)), (1, .int (nI b)), (2, .int ey)]) hx hb dX6_bits_100 hl (by decide) rfl (fun ls hl => ?_)
                      refine lv_bipush (v := nI 126) hx hb dX6_bits_102 (by decide) ?_
                      refine lv_iload_n hx hb dX6_bits_104 rfl (lv_at hl 5 rfl) ?_
                      refine lv_iadd hx hb dX6_bits_105 ?_
                      refine lv_bipush (v := nI 23) hx hb dX6_bits_106 (by decide) ?_
                      refine lv_ishl hx hb dX6_bits_108 ?_
                      refine lv_lload hx hb dX6_bits_109 (lv_at hl 0 rfl) ?_
                      refine lv_l2i (v := (((((nI a).toInt64) <<< (((nI 23) - ey).toInt64 &&& 63)) / ((nI b).toInt64)) + 0).toInt32) hx hb dX6_bits_111 rfl ?_
                      refine lv_iadd hx hb dX6_bits_112 ?_
                      exact ret ((((nI 126) + ey) <<< ((nI 23) &&& 31)) + ((((((nI a).toInt64) <<< (((nI 23) - ey).toInt64 &&& 63)) / ((nI b).toInt64)) + 0).toInt32)) () 113 ls H locs dX6_bits_113 (by rw [bitsM, if_neg (by omega), hF_, bMf, bRd, if_neg c_72, if_neg (fun q => q c_80), if_pos c_91]) (hw)
                    · refine lv_lconst (v := 1) hx hb dX6_bits_94 (by decide) ?_
                      refine lv_goto (tgt := 99) hx hb dX6_bits_95 (by decide) ?_
                      refine lv_ladd hx hb dX6_bits_99 ?_
                      refine lv_lstore (lv' := [(5, .long (((((nI a).toInt64) <<< (((nI 23) - ey).toInt64 &&& 63)) / ((nI b).toInt64)) + 1)), (7, .long (2 * ((((nI a).toInt64) <<< (((nI 23) - ey).toInt64 &&& 63)) - (((nI a).toInt64) <<< (((nI 23) - ey).toInt64 &&& 63)) / ((nI b).toInt64) * ((nI b).toInt64)))), (3, .long (((nI a).toInt64) <<< (((nI 23) - ey).toInt64 &&& 63))), (0, .int (nI a)), (1, .int (nI b)), (2, .int ey)]) hx hb dX6_bits_100 hl (by decide) rfl (fun ls hl => ?_)
                      refine lv_bipush (v := nI 126) hx hb dX6_bits_102 (by decide) ?_
                      refine lv_iload_n hx hb dX6_bits_104 rfl (lv_at hl 5 rfl) ?_
                      refine lv_iadd hx hb dX6_bits_105 ?_
                      refine lv_bipush (v := nI 23) hx hb dX6_bits_106 (by decide) ?_
                      refine lv_ishl hx hb dX6_bits_108 ?_
                      refine lv_lload hx hb dX6_bits_109 (lv_at hl 0 rfl) ?_
                      refine lv_l2i (v := (((((nI a).toInt64) <<< (((nI 23) - ey).toInt64 &&& 63)) / ((nI b).toInt64)) + 1).toInt32) hx hb dX6_bits_111 rfl ?_
                      refine lv_iadd hx hb dX6_bits_112 ?_
                      exact ret ((((nI 126) + ey) <<< ((nI 23) &&& 31)) + ((((((nI a).toInt64) <<< (((nI 23) - ey).toInt64 &&& 63)) / ((nI b).toInt64)) + 1).toInt32)) () 113 ls H locs dX6_bits_113 (by rw [bitsM, if_neg (by omega), hF_, bMf, bRd, if_neg c_72, if_neg (fun q => q c_80), if_neg (fun q => q c_91)]) (hw)
              · refine lv_iload_n hx hb dX6_bits_27 rfl (lv_at hl 0 rfl) ?_
                refine lv_iload_n hx hb dX6_bits_28 rfl (lv_at hl 2 rfl) ?_
                refine lv_ineg hx hb dX6_bits_29 ?_
                refine lv_ishl hx hb dX6_bits_30 ?_
                refine lv_iload_n hx hb dX6_bits_31 rfl (lv_at hl 1 rfl) ?_
                refine lv_icmp_ge (tgt := 41) hx hb dX6_bits_32 (by decide) (fun c_32 => ?_) (fun c_32 => ?_)
                · have hF_ : bEx a b = ey := by
                    rw [← hV2]
                    cases kg with
                    | zero => rfl
                    | succ kg => simp only [bdn]; rw [if_neg c_24, if_pos c_32]
                  refine lv_iload_n hx hb dX6_bits_41 rfl (lv_at hl 0 rfl) ?_
                  refine lv_i2l (v := (nI a).toInt64) hx hb dX6_bits_42 rfl ?_
                  refine lv_bipush (v := nI 23) hx hb dX6_bits_43 (by decide) ?_
                  refine lv_iload_n hx hb dX6_bits_45 rfl (lv_at hl 2 rfl) ?_
                  refine lv_isub hx hb dX6_bits_46 ?_
                  refine lv_lshl (v := ((nI a).toInt64) <<< (((nI 23) - ey).toInt64 &&& 63)) hx hb dX6_bits_47 rfl ?_
                  refine lv_lstore_n (lv' := [(3, .long (((nI a).toInt64) <<< (((nI 23) - ey).toInt64 &&& 63))), (0, .int (nI a)), (1, .int (nI b)), (2, .int ey)]) hx hb dX6_bits_48 rfl hl (by decide) rfl (fun ls hl => ?_)
                  refine lv_lload_n hx hb dX6_bits_49 rfl (lv_at hl 0 rfl) ?_
                  refine lv_iload_n hx hb dX6_bits_50 rfl (lv_at hl 2 rfl) ?_
                  refine lv_i2l (v := (nI b).toInt64) hx hb dX6_bits_51 rfl ?_
                  refine lv_ldiv hx hb dX6_bits_52 (hok9_.2.2) ?_
                  refine lv_lstore (lv' := [(5, .long ((((nI a).toInt64) <<< (((nI 23) - ey).toInt64 &&& 63)) / ((nI b).toInt64))), (3, .long (((nI a).toInt64) <<< (((nI 23) - ey).toInt64 &&& 63))), (0, .int (nI a)), (1, .int (nI b)), (2, .int ey)]) hx hb dX6_bits_53 hl (by decide) rfl (fun ls hl => ?_)
                  refine lv_ldc2 (v := 2) hx hb hown (hts _ wd_237) dX6_bits_55 ?_
                  refine lv_lload_n hx hb dX6_bits_58 rfl (lv_at hl 1 rfl) ?_
                  refine lv_iload_n hx hb dX6_bits_59 rfl (lv_at hl 3 rfl) ?_
                  refine lv_i2l (v := (nI b).toInt64) hx hb dX6_bits_60 rfl ?_
                  refine lv_lrem hx hb dX6_bits_61 (hok9_.2.2) ?_
                  refine lv_lmul hx hb dX6_bits_62 ?_
                  refine lv_lstore (lv' := [(7, .long (2 * ((((nI a).toInt64) <<< (((nI 23) - ey).toInt64 &&& 63)) - (((nI a).toInt64) <<< (((nI 23) - ey).toInt64 &&& 63)) / ((nI b).toInt64) * ((nI b).toInt64)))), (5, .long ((((nI a).toInt64) <<< (((nI 23) - ey).toInt64 &&& 63)) / ((nI b).toInt64))), (3, .long (((nI a).toInt64) <<< (((nI 23) - ey).toInt64 &&& 63))), (0, .int (nI a)), (1, .int (nI b)), (2, .int ey)]) hx hb dX6_bits_63 hl (by decide) rfl (fun ls hl => ?_)
                  refine lv_lload hx hb dX6_bits_65 (lv_at hl 1 rfl) ?_
                  refine lv_lload hx hb dX6_bits_67 (lv_at hl 0 rfl) ?_
                  refine lv_iload_n hx hb dX6_bits_69 rfl (lv_at hl 4 rfl) ?_
                  refine lv_i2l (v := (nI b).toInt64) hx hb dX6_bits_70 rfl ?_
                  refine W.lcmp hx hb dX6_bits_71 ?_
                  refine lv_if_gt (tgt := 94) hx hb dX6_bits_72 (by decide) (fun c_72 => ?_) (fun c_72 => ?_)
                  · refine lv_lconst (v := 1) hx hb dX6_bits_94 (by decide) ?_
                    refine lv_goto (tgt := 99) hx hb dX6_bits_95 (by decide) ?_
                    refine lv_ladd hx hb dX6_bits_99 ?_
                    refine lv_lstore (lv' := [(5, .long (((((nI a).toInt64) <<< (((nI 23) - ey).toInt64 &&& 63)) / ((nI b).toInt64)) + 1)), (7, .long (2 * ((((nI a).toInt64) <<< (((nI 23) - ey).toInt64 &&& 63)) - (((nI a).toInt64) <<< (((nI 23) - ey).toInt64 &&& 63)) / ((nI b).toInt64) * ((nI b).toInt64)))), (3, .long (((nI a).toInt64) <<< (((nI 23) - ey).toInt64 &&& 63))), (0, .int (nI a)), (1, .int (nI b)), (2, .int ey)]) hx hb dX6_bits_100 hl (by decide) rfl (fun ls hl => ?_)
                    refine lv_bipush (v := nI 126) hx hb dX6_bits_102 (by decide) ?_
                    refine lv_iload_n hx hb dX6_bits_104 rfl (lv_at hl 5 rfl) ?_
                    refine lv_iadd hx hb dX6_bits_105 ?_
                    refine lv_bipush (v := nI 23) hx hb dX6_bits_106 (by decide) ?_
                    refine lv_ishl hx hb dX6_bits_108 ?_
                    refine lv_lload hx hb dX6_bits_109 (lv_at hl 0 rfl) ?_
                    refine lv_l2i (v := (((((nI a).toInt64) <<< (((nI 23) - ey).toInt64 &&& 63)) / ((nI b).toInt64)) + 1).toInt32) hx hb dX6_bits_111 rfl ?_
                    refine lv_iadd hx hb dX6_bits_112 ?_
                    exact ret ((((nI 126) + ey) <<< ((nI 23) &&& 31)) + ((((((nI a).toInt64) <<< (((nI 23) - ey).toInt64 &&& 63)) / ((nI b).toInt64)) + 1).toInt32)) () 113 ls H locs dX6_bits_113 (by rw [bitsM, if_neg (by omega), hF_, bMf, bRd, if_pos c_72]) (hw)
                  · refine lv_lload hx hb dX6_bits_75 (lv_at hl 0 rfl) ?_
                    refine lv_iload_n hx hb dX6_bits_77 rfl (lv_at hl 4 rfl) ?_
                    refine lv_i2l (v := (nI b).toInt64) hx hb dX6_bits_78 rfl ?_
                    refine W.lcmp hx hb dX6_bits_79 ?_
                    refine lv_if_ne (tgt := 98) hx hb dX6_bits_80 (by decide) (fun c_80 => ?_) (fun c_80 => ?_)
                    · refine lv_lconst (v := 0) hx hb dX6_bits_98 (by decide) ?_
                      refine lv_ladd hx hb dX6_bits_99 ?_
                      refine lv_lstore (lv' := [(5, .long (((((nI a).toInt64) <<< (((nI 23) - ey).toInt64 &&& 63)) / ((nI b).toInt64)) + 0)), (7, .long (2 * ((((nI a).toInt64) <<< (((nI 23) - ey).toInt64 &&& 63)) - (((nI a).toInt64) <<< (((nI 23) - ey).toInt64 &&& 63)) / ((nI b).toInt64) * ((nI b).toInt64)))), (3, .long (((nI a).toInt64) <<< (((nI 23) - ey).toInt64 &&& 63))), (0, .int (nI a)), (1, .int (nI b)), (2, .int ey)]) hx hb dX6_bits_100 hl (by decide) rfl (fun ls hl => ?_)
                      refine lv_bipush (v := nI 126) hx hb dX6_bits_102 (by decide) ?_
                      refine lv_iload_n hx hb dX6_bits_104 rfl (lv_at hl 5 rfl) ?_
                      refine lv_iadd hx hb dX6_bits_105 ?_
                      refine lv_bipush (v := nI 23) hx hb dX6_bits_106 (by decide) ?_
                      refine lv_ishl hx hb dX6_bits_108 ?_
                      refine lv_lload hx hb dX6_bits_109 (lv_at hl 0 rfl) ?_
                      refine lv_l2i (v := (((((nI a).toInt64) <<< (((nI 23) - ey).toInt64 &&& 63)) / ((nI b).toInt64)) + 0).toInt32) hx hb dX6_bits_111 rfl ?_
                      refine lv_iadd hx hb dX6_bits_112 ?_
                      exact ret ((((nI 126) + ey) <<< ((nI 23) &&& 31)) + ((((((nI a).toInt64) <<< (((nI 23) - ey).toInt64 &&& 63)) / ((nI b).toInt64)) + 0).toInt32)) () 113 ls H locs dX6_bits_113 (by rw [bitsM, if_neg (by omega), hF_, bMf, bRd, if_neg c_72, if_pos c_80]) (hw)
                    · refine lv_lload hx hb dX6_bits_83 (lv_at hl 1 rfl) ?_
                      refine lv_ldc2 (v := 2) hx hb hown (hts _ wd_237) dX6_bits_85 ?_
                      refine lv_lrem hx hb dX6_bits_88 (by decide) ?_
                      refine lv_lconst (v := 1) hx hb dX6_bits_89 (by decide) ?_
                      refine W.lcmp hx hb dX6_bits_90 ?_
                      refine lv_if_ne (tgt := 98) hx hb dX6_bits_91 (by decide) (fun c_91 => ?_) (fun c_91 => ?_)
                      · refine lv_lconst (v := 0) hx hb dX6_bits_98 (by decide) ?_
                        refine lv_ladd hx hb dX6_bits_99 ?_
                        refine lv_lstore (lv' := [(5, .long (((((nI a).toInt64) <<< (((nI 23) - ey).toInt64 &&& 63)) / ((nI b).toInt64)) + 0)), (7, .long (2 * ((((nI a).toInt64) <<< (((nI 23) - ey).toInt64 &&& 63)) - (((nI a).toInt64) <<< (((nI 23) - ey).toInt64 &&& 63)) / ((nI b).toInt64) * ((nI b).toInt64)))), (3, .long (((nI a).toInt64) <<< (((nI 23) - ey).toInt64 &&& 63))), (0, .int (nI a)), (1, .int (nI b)), (2, .int ey)]) hx hb dX6_bits_100 hl (by decide) rfl (fun ls hl => ?_)
                        refine lv_bipush (v := nI 126) hx hb dX6_bits_102 (by decide) ?_
                        refine lv_iload_n hx hb dX6_bits_104 rfl (lv_at hl 5 rfl) ?_
                        refine lv_iadd hx hb dX6_bits_105 ?_
                        refine lv_bipush (v := nI 23) hx hb dX6_bits_106 (by decide) ?_
                        refine lv_ishl hx hb dX6_bits_108 ?_
                        refine lv_lload hx hb dX6_bits_109 (lv_at hl 0 rfl) ?_
                        refine lv_l2i (v := (((((nI a).toInt64) <<< (((nI 23) - ey).toInt64 &&& 63)) / ((nI b).toInt64)) + 0).toInt32) hx hb dX6_bits_111 rfl ?_
                        refine lv_iadd hx hb dX6_bits_112 ?_
                        exact ret ((((nI 126) + ey) <<< ((nI 23) &&& 31)) + ((((((nI a).toInt64) <<< (((nI 23) - ey).toInt64 &&& 63)) / ((nI b).toInt64)) + 0).toInt32)) () 113 ls H locs dX6_bits_113 (by rw [bitsM, if_neg (by omega), hF_, bMf, bRd, if_neg c_72, if_neg (fun q => q c_80), if_pos c_91]) (hw)
                      · refine lv_lconst (v := 1) hx hb dX6_bits_94 (by decide) ?_
                        refine lv_goto (tgt := 99) hx hb dX6_bits_95 (by decide) ?_
                        refine lv_ladd hx hb dX6_bits_99 ?_
                        refine lv_lstore (lv' := [(5, .long (((((nI a).toInt64) <<< (((nI 23) - ey).toInt64 &&& 63)) / ((nI b).toInt64)) + 1)), (7, .long (2 * ((((nI a).toInt64) <<< (((nI 23) - ey).toInt64 &&& 63)) - (((nI a).toInt64) <<< (((nI 23) - ey).toInt64 &&& 63)) / ((nI b).toInt64) * ((nI b).toInt64)))), (3, .long (((nI a).toInt64) <<< (((nI 23) - ey).toInt64 &&& 63))), (0, .int (nI a)), (1, .int (nI b)), (2, .int ey)]) hx hb dX6_bits_100 hl (by decide) rfl (fun ls hl => ?_)
                        refine lv_bipush (v := nI 126) hx hb dX6_bits_102 (by decide) ?_
                        refine lv_iload_n hx hb dX6_bits_104 rfl (lv_at hl 5 rfl) ?_
                        refine lv_iadd hx hb dX6_bits_105 ?_
                        refine lv_bipush (v := nI 23) hx hb dX6_bits_106 (by decide) ?_
                        refine lv_ishl hx hb dX6_bits_108 ?_
                        refine lv_lload hx hb dX6_bits_109 (lv_at hl 0 rfl) ?_
                        refine lv_l2i (v := (((((nI a).toInt64) <<< (((nI 23) - ey).toInt64 &&& 63)) / ((nI b).toInt64)) + 1).toInt32) hx hb dX6_bits_111 rfl ?_
                        refine lv_iadd hx hb dX6_bits_112 ?_
                        exact ret ((((nI 126) + ey) <<< ((nI 23) &&& 31)) + ((((((nI a).toInt64) <<< (((nI 23) - ey).toInt64 &&& 63)) / ((nI b).toInt64)) + 1).toInt32)) () 113 ls H locs dX6_bits_113 (by rw [bitsM, if_neg (by omega), hF_, bMf, bRd, if_neg c_72, if_neg (fun q => q c_80), if_neg (fun q => q c_91)]) (hw)
                · obtain ⟨k3, rfl⟩ : ∃ k3, kg = k3 + 1 := by
                    cases kg with
                    | zero => simp [tdn] at hT2
                    | succ k3 => exact ⟨k3, rfl⟩
                  refine lv_iinc (v := ey + (-1)) (lv' := [(2, .int (ey + (-1))), (0, .int (nI a)), (1, .int (nI b))]) hx hb dX6_bits_35 hl (k := 2) rfl (rfl) (by decide) rfl (fun ls hl => ?_)
                  refine lv_goto (tgt := 23) hx hb dX6_bits_38 (by decide) ?_
                  exact ih_23 k3 (ey + (-1)) (by simp only [tdn] at hT2; rw [if_neg c_24, if_neg c_32] at hT2; exact hT2) (by rw [← hV2]; simp only [bdn]; rw [if_neg c_24, if_neg c_32]) (by omega) _ _ ls (hw) (lv_add (lv_add (lv_add (lv_nil hl) (lv_at hl 0 rfl)) (lv_at hl 2 rfl)) (lv_at hl 1 rfl))
          exact loop_23 _ 12 ex (by have h9 := hok9_.2.1; rw [hE_] at h9; exact h9) (by rw [bEx, hE_]) (Nat.lt_succ_self _) _ _ ls (hw) (lv_add (lv_add (lv_add (lv_nil hl) (lv_at hl 2 rfl)) (lv_at hl 1 rfl)) (lv_at hl 0 rfl))
        · obtain ⟨k2, rfl⟩ : ∃ k2, kf = k2 + 1 := by
            cases kf with
            | zero => simp [tu] at hT
            | succ k2 => exact ⟨k2, rfl⟩
          refine lv_iinc (v := ex + (1)) (lv' := [(2, .int (ex + (1))), (0, .int (nI a)), (1, .int (nI b))]) hx hb dX6_bits_17 hl (k := 2) rfl (rfl) (by decide) rfl (fun ls hl => ?_)
          refine lv_goto (tgt := 8) hx hb dX6_bits_20 (by decide) ?_
          exact ih_8 k2 (ex + (1)) (by simp only [tu] at hT; rw [if_neg c_14] at hT; exact hT) (by rw [← hV]; simp only [bu]; rw [if_neg c_14]) (by omega) _ _ ls (hw) (lv_add (lv_add (lv_add (lv_nil hl) (lv_at hl 0 rfl)) (lv_at hl 2 rfl)) (lv_at hl 1 rfl))
    exact loop_8 _ 12 (nI 0) (hok9_.1) (rfl) (Nat.lt_succ_self _) _ _ ls (hw) (lv_add (lv_add (lv_add (lv_nil hl) (lv_eqv (lv_at hl 0 rfl) (zI (by rfl)))) (lv_at hl 2 rfl)) (lv_at hl 1 rfl))
  · refine lv_iconst (v := nI 0) hx hb dX6_bits_4 (by decide) ?_
    exact ret (nI 0) () 5 ls s.heap [] dX6_bits_5 (by rw [bitsM, if_pos c_1]) (hw)

def rmX6_meanWearBits : Room := { frames := 3, cells := 0, slots := 0, locals := 63 }
set_option maxHeartbeats 4000000 in
set_option maxRecDepth 100000 in
theorem c_X6_meanWearBits (l : Launch) (E : ZE) (h0 aN aH aO aR aL aG aT aE aB aV : Nat) (ed mc : Nat) (Nw : Nat → Nat) (sd x : Int32) (hn : Nw 96 ≤ 24) (hF : ∀ j, j < 96 → Nw j < 10) (hW : ∀ k sd, k < 24 → sd < 2 → Nw (4 * k + 2 + sd) ≤ 5) : ZMi l yX6_meanWearBits cX6_meanWearBits 6 (some .int) rmX6_meanWearBits E [.ref h0, .int sd, .int x] [(h0, ob 6 [.ref aN, .ref aH, .int (nI ed), .int (nI mc), .ref aO, .ref aR, .ref aL, .ref aG, .ref aT, .ref aE, .ref aB, .ref aV]), (aN, ia E 97 (nA Nw))] (S := Unit) (fun r _ => r = mwR Nw (Nw 96) sd x) (fun _ => [(h0, ob 6 [.ref aN, .ref aH, .int (nI ed), .int (nI mc), .ref aO, .ref aR, .ref aL, .ref aG, .ref aT, .ref aE, .ref aB, .ref aV]), (aN, ia E 97 (nA Nw))]) := by
  refine z_mi (by decide) (Nat.le_of_ble_eq_true rfl) ?_
  intro p e s m args below meth c A Q ls cx hin hw hl ret
  obtain ⟨hx, hb, hml, hown, hts, hK, hN, hA, hlk⟩ := id cx
  have hl : lv_has ls 6 [(0, .ref h0), (1, .int sd), (2, .int x)] := hl
  refine lv_iload_n hx hb dX6_meanWearBits_0 rfl (lv_at hl 1 rfl) ?_
  refine lv_iload_n hx hb dX6_meanWearBits_1 rfl (lv_at hl 2 rfl) ?_
  refine z_ri0 (wr := [(h0, ob 6 [.ref aN, .ref aH, .int (nI ed), .int (nI mc), .ref aO, .ref aR, .ref aL, .ref aG, .ref aT, .ref aE, .ref aB, .ref aV]), (aN, ia E 97 (nA Nw))]) cx hw [] [0, 1] rfl rfl (by decide) (by decide) rfl rfl (z_runS (As := [.int sd, .int x]) (rest := []) cx hw [] rfl rfl (c_X6_isDie l E sd x  s.heap.size) mf_X6_isDie wd_171 ⟨Nat.le_of_ble_eq_true rfl, Nat.le_of_ble_eq_true rfl⟩ hl (Nat.le_of_ble_eq_true rfl) dX6_meanWearBits_2 ⟨Nat.le_of_ble_eq_true rfl, Nat.le_of_ble_eq_true rfl⟩) (fun r _ H locs hp hw => ?_)
  have hr_2 := hp
  have hr_2 : r = bI (inR sd 2 && inR x 10) := hr_2
  subst hr_2
  have hw : ZW E A s [(h0, ob 6 [.ref aN, .ref aH, .int (nI ed), .int (nI mc), .ref aO, .ref aR, .ref aL, .ref aG, .ref aT, .ref aE, .ref aB, .ref aV]), (aN, ia E 97 (nA Nw))] H locs := hw
  refine z_ifb_ne hx hb 10 dX6_meanWearBits_5 (by decide) (fun c_5 => ?_) (fun c_5 => ?_)
  · obtain ⟨hi1_, hi2_⟩ : inR sd 2 = true ∧ inR x 10 = true := by simpa using c_5
    obtain ⟨t, ht, rfl⟩ := inR_get hi1_ (by omega)
    obtain ⟨a2, ha, rfl⟩ := inR_get hi2_ (by omega)
    refine lv_aload_n hx hb dX6_meanWearBits_10 rfl (lv_at hl 0 rfl) ?_
    refine lv_iload_n hx hb dX6_meanWearBits_11 rfl (lv_at hl 1 rfl) ?_
    refine lv_iload_n hx hb dX6_meanWearBits_12 rfl (lv_at hl 2 rfl) ?_
    refine z_ri0 (wr := []) cx hw [0, 1] [] rfl rfl (by decide) (by decide) rfl rfl (z_runV (As := [.int (nI t), .int (nI a2)]) (rest := []) cx hw rfl rfl [0, 1] rfl rfl (c_X6_specimens l E h0 aN aH aO aR aL aG aT aE aB aV ed mc Nw t a2 (by omega) (hF) (by omega) (by omega) H.size) mf_X6_specimens wd_174 ⟨Nat.le_of_ble_eq_true rfl, Nat.le_of_ble_eq_true rfl⟩ hl (Nat.le_of_ble_eq_true rfl) dX6_meanWearBits_13 ⟨Nat.le_of_ble_eq_true rfl, Nat.le_of_ble_eq_true rfl⟩) (fun r _ H locs hp hw => ?_)
    have hr_13 := hp
    have hr_13 : r = nI (cnt Nw t a2 (Nw 96)) := hr_13
    subst hr_13
    have hw : ZW E A s [(h0, ob 6 [.ref aN, .ref aH, .int (nI ed), .int (nI mc), .ref aO, .ref aR, .ref aL, .ref aG, .ref aT, .ref aE, .ref aB, .ref aV]), (aN, ia E 97 (nA Nw))] H locs := hw
    refine lv_istore_n (lv' := [(3, .int (nI (cnt Nw t a2 (Nw 96)))), (0, .ref h0), (1, .int (nI t)), (2, .int (nI a2))]) hx hb dX6_meanWearBits_16 rfl hl (by decide) rfl (fun ls hl => ?_)
    refine lv_iload_n hx hb dX6_meanWearBits_17 rfl (lv_at hl 0 rfl) ?_
    have hc_ := cnt_le Nw t a2 (Nw 96)
    refine z_if_ne hx hb (by omega) 24 dX6_meanWearBits_18 (by decide) (fun c_18 => ?_) (fun c_18 => ?_)
    · refine lv_iconst (v := nI 0) hx hb dX6_meanWearBits_24 (by decide) ?_
      refine lv_istore (lv' := [(4, .int (nI 0)), (3, .int (nI (cnt Nw t a2 (Nw 96)))), (0, .ref h0), (1, .int (nI t)), (2, .int (nI a2))]) hx hb dX6_meanWearBits_25 hl (by decide) rfl (fun ls hl => ?_)
      refine lv_iconst (v := nI 0) hx hb dX6_meanWearBits_27 (by decide) ?_
      refine lv_istore (lv' := [(5, .int (nI 0)), (4, .int (nI 0)), (3, .int (nI (cnt Nw t a2 (Nw 96)))), (0, .ref h0), (1, .int (nI t)), (2, .int (nI a2))]) hx hb dX6_meanWearBits_28 hl (by decide) rfl (fun ls hl => ?_)
      have loop_30 : ∀ (fuel : Nat) (k : Nat) (hk : k ≤ Nw 96) (hm : Nw 96 - k < fuel) (H : Heap) (locs : List Loc) (ls : Array Slot), ZW E A s [(h0, ob 6 [.ref aN, .ref aH, .int (nI ed), .int (nI mc), .ref aO, .ref aR, .ref aL, .ref aG, .ref aT, .ref aE, .ref aB, .ref aV]), (aN, ia E 97 (nA Nw))] H locs → lv_has ls 6 [(0, .ref h0), (1, .int (nI t)), (2, .int (nI a2)), (3, .int (nI (cnt Nw t a2 (Nw 96)))), (4, .int (nI (wsum Nw t a2 k))), (5, .int (nI k))] → W p l e rmX6_meanWearBits s m args below meth c H locs 0 0 Q (F0 m 30 ls []) := by
        intro fuel
        induction fuel with
        | zero => intro k hk hm; exact absurd hm (Nat.not_lt_zero _)
        | succ fuel ih_30 =>
          intro k hk hm H locs ls hw hl
          refine lv_iload hx hb dX6_meanWearBits_30 (lv_at hl 5 rfl) ?_
          refine lv_aload_n hx hb dX6_meanWearBits_32 rfl (lv_at hl 0 rfl) ?_
          refine z_get cx hw 0 0 rfl rfl inlX6 (by decide) wd_70 rfl dX6_meanWearBits_33 ?_
          refine lv_bipush (v := nI 96) hx hb dX6_meanWearBits_36 (by decide) ?_
          refine z_aldN cx hw 1 rfl (96) rfl (by omega) (by decide) dX6_meanWearBits_38 ?_
          refine z_icmp_ge hx hb (by omega) (by omega) 85 dX6_meanWearBits_39 (by decide) (fun c_39 => ?_) (fun c_39 => ?_)
          · refine lv_iload hx hb dX6_meanWearBits_85 (lv_at hl 4 rfl) ?_
            refine lv_iload_n hx hb dX6_meanWearBits_87 rfl (lv_at hl 3 rfl) ?_
            have ek_ : k = Nw 96 := by omega
            have hm_ := mw_ok (a := wsum Nw t a2 k) (b := cnt Nw t a2 (Nw 96)) c_18 (by omega) (by rw [ek_]; exact wsum_le (fun k hk => hW k t (by omega) ht))
            have hl2_ : wsum Nw t a2 k ≤ 5 * cnt Nw t a2 (Nw 96) := by rw [ek_]; exact wsum_le (fun k hk => hW k t (by omega) ht)
            refine z_ri0 (wr := [(h0, ob 6 [.ref aN, .ref aH, .int (nI ed), .int (nI mc), .ref aO, .ref aR, .ref aL, .ref aG, .ref aT, .ref aE, .ref aB, .ref aV]), (aN, ia E 97 (nA Nw))]) cx hw [] [0, 1] rfl rfl (by decide) (by decide) rfl rfl (z_runS (As := [.int (nI (wsum Nw t a2 k)), .int (nI (cnt Nw t a2 (Nw 96)))]) (rest := []) cx hw [] rfl rfl (c_X6_bits l E (wsum Nw t a2 k) (cnt Nw t a2 (Nw 96)) (hm_.2.2.1) (by omega) H.size) mf_X6_bits wd_234 ⟨Nat.le_of_ble_eq_true rfl, Nat.le_of_ble_eq_true rfl⟩ hl (Nat.le_of_ble_eq_true rfl) dX6_meanWearBits_88 ⟨Nat.le_of_ble_eq_true rfl, Nat.le_of_ble_eq_true rfl⟩) (fun r _ H locs hp hw => ?_)
            have hr_88 := hp
            have hr_88 : r = bitsM (wsum Nw t a2 k) (cnt Nw t a2 (Nw 96)) := hr_88
            subst hr_88
            have hw : ZW E A s [(h0, ob 6 [.ref aN, .ref aH, .int (nI ed), .int (nI mc), .ref aO, .ref aR, .ref aL, .ref aG, .ref aT, .ref aE, .ref aB, .ref aV]), (aN, ia E 97 (nA Nw))] H locs := hw
            exact ret (bitsM (wsum Nw t a2 k) (cnt Nw t a2 (Nw 96))) () 91 ls H locs dX6_meanWearBits_91 (by rw [mwR, if_pos c_5, cl_nI ht (by decide), cl_nI ha (by decide), if_neg (by omega), ek_]) (hw)
          · refine lv_iload hx hb dX6_meanWearBits_42 (lv_at hl 4 rfl) ?_
            refine lv_aload_n hx hb dX6_meanWearBits_44 rfl (lv_at hl 0 rfl) ?_
            refine z_get cx hw 0 0 rfl rfl inlX6 (by decide) wd_70 rfl dX6_meanWearBits_45 ?_
            refine lv_iconst (v := nI 4) hx hb dX6_meanWearBits_48 (by decide) ?_
            refine lv_iload hx hb dX6_meanWearBits_49 (lv_at hl 5 rfl) ?_
            refine z_imul hx hb (4 * k) rfl dX6_meanWearBits_51 ?_
            refine lv_iload_n hx hb dX6_meanWearBits_52 rfl (lv_at hl 1 rfl) ?_
            refine z_iadd hx hb ((4 * k) + t) rfl dX6_meanWearBits_53 ?_
            refine z_aldN cx hw 1 rfl ((4 * k) + t) rfl (by omega) (by decide) dX6_meanWearBits_54 ?_
            have h_ := hF (4 * k + t) (by omega)
            refine lv_iload_n hx hb dX6_meanWearBits_55 rfl (lv_at hl 2 rfl) ?_
            refine z_icmp_ne hx hb (by omega) (by omega) 75 dX6_meanWearBits_56 (by decide) (fun c_56 => ?_) (fun c_56 => ?_)
            · refine lv_iconst (v := nI 0) hx hb dX6_meanWearBits_75 (by decide) ?_
              refine z_iadd hx hb (wsum Nw t a2 k) rfl dX6_meanWearBits_76 ?_
              refine lv_istore (lv' := [(4, .int (nI (wsum Nw t a2 k))), (0, .ref h0), (1, .int (nI t)), (2, .int (nI a2)), (3, .int (nI (cnt Nw t a2 (Nw 96)))), (5, .int (nI k))]) hx hb dX6_meanWearBits_77 hl (by decide) rfl (fun ls hl => ?_)
              refine lv_iinc (v := nI (k + 1)) (lv' := [(5, .int (nI (k + 1))), (4, .int (nI (wsum Nw t a2 k))), (0, .ref h0), (1, .int (nI t)), (2, .int (nI a2)), (3, .int (nI (cnt Nw t a2 (Nw 96))))]) hx hb dX6_meanWearBits_79 hl (k := 5) rfl (nI_1 _) (by decide) rfl (fun ls hl => ?_)
              refine lv_goto (tgt := 30) hx hb dX6_meanWearBits_82 (by decide) ?_
              exact ih_30 (k + 1) (by omega) (by omega) _ _ ls (hw) (lv_add (lv_add (lv_add (lv_add (lv_add (lv_add (lv_nil hl) (lv_at hl 0 rfl)) (lv_eqv (lv_at hl 1 rfl) (zN (by simp [wsum, c_56])))) (lv_at hl 5 rfl)) (lv_at hl 4 rfl)) (lv_at hl 3 rfl)) (lv_at hl 2 rfl))
            · refine lv_aload_n hx hb dX6_meanWearBits_59 rfl (lv_at hl 0 rfl) ?_
              refine z_get cx hw 0 0 rfl rfl inlX6 (by decide) wd_70 rfl dX6_meanWearBits_60 ?_
              refine lv_iconst (v := nI 4) hx hb dX6_meanWearBits_63 (by decide) ?_
              refine lv_iload hx hb dX6_meanWearBits_64 (lv_at hl 5 rfl) ?_
              refine z_imul hx hb (4 * k) rfl dX6_meanWearBits_66 ?_
              refine lv_iconst (v := nI 2) hx hb dX6_meanWearBits_67 (by decide) ?_
              refine z_iadd hx hb ((4 * k) + 2) rfl dX6_meanWearBits_68 ?_
              refine lv_iload_n hx hb dX6_meanWearBits_69 rfl (lv_at hl 1 rfl) ?_
              refine z_iadd hx hb (((4 * k) + 2) + t) rfl dX6_meanWearBits_70 ?_
              refine z_aldN cx hw 1 rfl (4 * k + 2 + t) (congrArg nI (by omega)) (by omega) (by decide) dX6_meanWearBits_71 ?_
              refine lv_goto (tgt := 76) hx hb dX6_meanWearBits_72 (by decide) ?_
              refine z_iadd hx hb ((wsum Nw t a2 k) + (Nw (4 * k + 2 + t))) rfl dX6_meanWearBits_76 ?_
              refine lv_istore (lv' := [(4, .int (nI ((wsum Nw t a2 k) + (Nw (4 * k + 2 + t))))), (0, .ref h0), (1, .int (nI t)), (2, .int (nI a2)), (3, .int (nI (cnt Nw t a2 (Nw 96)))), (5, .int (nI k))]) hx hb dX6_meanWearBits_77 hl (by decide) rfl (fun ls hl => ?_)
              refine lv_iinc (v := nI (k + 1)) (lv' := [(5, .int (nI (k + 1))), (4, .int (nI ((wsum Nw t a2 k) + (Nw (4 * k + 2 + t))))), (0, .ref h0), (1, .int (nI t)), (2, .int (nI a2)), (3, .int (nI (cnt Nw t a2 (Nw 96))))]) hx hb dX6_meanWearBits_79 hl (k := 5) rfl (nI_1 _) (by decide) rfl (fun ls hl => ?_)
              refine lv_goto (tgt := 30) hx hb dX6_meanWearBits_82 (by decide) ?_
              exact ih_30 (k + 1) (by omega) (by omega) _ _ ls (hw) (lv_add (lv_add (lv_add (lv_add (lv_add (lv_add (lv_nil hl) (lv_at hl 0 rfl)) (lv_eqv (lv_at hl 1 rfl) (zN (by simp [wsum, c_56])))) (lv_at hl 5 rfl)) (lv_at hl 4 rfl)) (lv_at hl 3 rfl)) (lv_at hl 2 rfl))
      exact loop_30 _ 0 (by omega) (Nat.lt_succ_self _) _ _ ls (hw) (lv_add (lv_add (lv_add (lv_add (lv_add (lv_add (lv_nil hl) (lv_at hl 0 rfl)) (lv_eqv (lv_at hl 1 rfl) (zN (by rfl)))) (lv_at hl 2 rfl)) (lv_at hl 5 rfl)) (lv_at hl 4 rfl)) (lv_at hl 3 rfl))
    · refine lv_bipush (v := (-3)) hx hb dX6_meanWearBits_21 (by decide) ?_
      exact ret ((-3)) () 23 ls H locs dX6_meanWearBits_23 (by rw [mwR, if_pos c_5, cl_nI ht (by decide), cl_nI ha (by decide), if_pos c_18]) (hw)
  · refine lv_iconst (v := (-1)) hx hb dX6_meanWearBits_8 (by decide) ?_
    exact ret ((-1)) () 9 ls H locs dX6_meanWearBits_9 (by rw [mwR, c_5]; rfl) (hw)

