/-! ===== small rows for walks; what the tables say of each method ===== -/
theorem zN {a b : Nat} (h : a = b) : Value.int (nI a) = Value.int (nI b) := by rw [h]
theorem zB {a b : Bool} (h : a = b) : Value.int (bI a) = Value.int (bI b) := by rw [h]
theorem zI {a b : Int32} (h : a = b) : Value.int a = Value.int b := by rw [h]
theorem zNB1 {b : Bool} (h : b = true) : Value.int (nI 1) = Value.int (bI b) := by rw [h]; rfl
theorem zNB0 {b : Bool} (h : b = false) : Value.int (nI 0) = Value.int (bI b) := by rw [h]; rfl
theorem z_dec {a : Nat} (h : 0 < a) : nI a + Int32.ofInt (-1) = nI (a - 1) := by
  obtain ⟨b, rfl⟩ : ∃ b, a = b + 1 := ⟨a - 1, by omega⟩
  exact pk_m1 b
theorem lv_nil {ls : Array Slot} {nL : Nat} {l : List (Nat × Value)} (h : lv_has ls nL l) : lv_has ls nL [] := ⟨h.1, h.2.1, fun q hq => by cases hq⟩
theorem lv_add {ls : Array Slot} {nL : Nat} {l : List (Nat × Value)} (h : lv_has ls nL l) {i : Nat} {v : Value} (hi : ls[i]? = some (.val v)) : lv_has ls nL ((i, v) :: l) := ⟨h.1, h.2.1, fun q hq => by
  rcases List.mem_cons.mp hq with rfl | hq
  · exact hi
  · exact h.2.2 q hq⟩
theorem lv_eqv {ls : Array Slot} {i : Nat} {v v' : Value} (h : ls[i]? = some (.val v)) (e : v = v') : ls[i]? = some (.val v') := e ▸ h
theorem ZW.cast {E : ZE} {A : Nat → Prop} {s : State} {w w' : va_W} {H : Heap} {locs : List Loc} (h : ZW E A s w H locs) (e : w = w') : ZW E A s w' H locs := e ▸ h
theorem ZW.perm {E : ZE} {A : Nat → Prop} {s : State} {w w' : va_W} {H : Heap} {locs : List Loc} (h : ZW E A s w H locs) (is : List Nat) (hs : is.map (fun i => w[i]?) = w'.map some) (hn : va_nd is = true) : ZW E A s w' H locs := ⟨(h.part hs).1, h.2.1.sub is hn hs, h.2.2⟩
section ZD
variable {p : Program} {l : Launch} {e : Env} {R : Room} {s : State} {m : MethodId} {args : Array Value} {below : List Frame} {meth : Method} {c : Code} {H : Heap} {locs : List Loc} {cells slots : Nat} {Q : State → Prop}
variable {cc : ByteArray} {pc nL : Nat} {ls : Array Slot} {rest : List Value} {own : String} {E : ZE} {A : Nat → Prop} {w : va_W} {a : Nat}
variable {wc wr : va_W} {st0 : List Value}
theorem z_ri0 {S : Type} {post : Int32 → S → Prop} {W1 : S → va_W} {av : Array Value} {mc ms : Nat} (cx : Cx p s m args meth c cc nL own E A) (hw : ZW E A s w H locs) (isC isR : List Nat) (hC : isC.map (fun i => w[i]?) = wc.map some) (hRr : isR.map (fun i => w[i]?) = wr.map some) (hn : va_nd isR = true) (hdis : ∀ i ∈ isR, i ∉ isC) (h1 : mc = 0) (h2 : ms = 0)
    (hr : va_Run p l e R s m args below meth c H locs cells slots mc ms (F0 m pc ls st0) rest (va_Qi post (ZB E wc H.size W1) (va_A wc H.size) av) (va_A wc H.size))
    (kk : ∀ (r : Int32) (u : S) (H1 : Heap) (locs1 : List Loc), post r u → ZW E A s (wr ++ W1 u) H1 locs1 → W p l e R s m args below meth c H1 locs1 cells slots Q (F0 m (pc + 3) ls (.int r :: rest))) : W p l e R s m args below meth c H locs cells slots Q (F0 m pc ls st0) := by
  subst h1; subst h2
  exact z_ri cx hw isC isR hC hRr hn hdis hr kk
theorem z_rv0 {S : Type} {post : S → Prop} {W1 : S → va_W} {av : Array Value} {mc ms : Nat} (cx : Cx p s m args meth c cc nL own E A) (hw : ZW E A s w H locs) (isC isR : List Nat) (hC : isC.map (fun i => w[i]?) = wc.map some) (hRr : isR.map (fun i => w[i]?) = wr.map some) (hn : va_nd isR = true) (hdis : ∀ i ∈ isR, i ∉ isC) (h1 : mc = 0) (h2 : ms = 0)
    (hr : va_Run p l e R s m args below meth c H locs cells slots mc ms (F0 m pc ls st0) rest (va_Qv post (ZB E wc H.size W1) (va_A wc H.size) av) (va_A wc H.size))
    (kk : ∀ (u : S) (H1 : Heap) (locs1 : List Loc), post u → ZW E A s (wr ++ W1 u) H1 locs1 → W p l e R s m args below meth c H1 locs1 cells slots Q (F0 m (pc + 3) ls rest)) : W p l e R s m args below meth c H locs cells slots Q (F0 m pc ls st0) := by
  subst h1; subst h2
  exact z_rv cx hw isC isR hC hRr hn hdis hr kk
end ZD
theorem mf_X0_init : MFi yX0_init cX0_init 1 0 := ⟨wd_61, wd_30, (by decide +kernel), wd_60, rfl⟩
theorem mf_X0_arrange : MFv yX0_arrange cX0_arrange 4 (some .boolean) RX0 1 := ⟨wd_409, wd_30, (by decide +kernel), wd_407, wd_408⟩
theorem mf_X0_countEarlier : MFv yX0_countEarlier cX0_countEarlier 4 none RX0 1 := ⟨wd_413, wd_30, (by decide +kernel), wd_411, wd_412⟩
theorem mf_X0_lowestThatWaitsForNone : MFv yX0_lowestThatWaitsForNone cX0_lowestThatWaitsForNone 3 (some .int) RX0 1 := ⟨wd_418, wd_30, (by decide +kernel), wd_416, wd_417⟩
theorem mf_X0_releaseLater : MFv yX0_releaseLater cX0_releaseLater 4 none RX0 2 := ⟨wd_422, wd_30, (by decide +kernel), wd_420, wd_421⟩
theorem mf_X1_init : MFi yX1_init cX1_init 1 0 := ⟨wd_46, wd_22, (by decide +kernel), wd_45, rfl⟩
theorem mf_X1_has : MFv yX1_has cX1_has 2 (some .boolean) RX1 1 := ⟨wd_267, wd_22, (by decide +kernel), wd_265, wd_266⟩
theorem mf_X1_list : MFv yX1_list cX1_list 4 none RX1 1 := ⟨wd_244, wd_22, (by decide +kernel), wd_242, wd_243⟩
theorem mf_X1_pairOf : MFs yX1_pairOf cX1_pairOf 2 (some .int) 2 := ⟨wd_255, wd_22, (by decide +kernel), wd_254⟩
theorem mf_X1_markPairs : MFv yX1_markPairs cX1_markPairs 3 none RX1 1 := ⟨wd_248, wd_22, (by decide +kernel), wd_246, wd_247⟩
theorem mf_X1_numberPairs : MFv yX1_numberPairs cX1_numberPairs 2 none RX1 0 := ⟨wd_259, wd_22, (by decide +kernel), wd_257, wd_258⟩
theorem mf_X1_enter : MFv yX1_enter cX1_enter 4 none RX1 2 := ⟨wd_263, wd_22, (by decide +kernel), wd_261, wd_262⟩
theorem mf_X1_spanWear : MFv yX1_spanWear cX1_spanWear 4 none RX1 3 := ⟨wd_271, wd_22, (by decide +kernel), wd_269, wd_270⟩
theorem mf_X1_isEarlier : MFv yX1_isEarlier cX1_isEarlier 3 (some .boolean) RX1 2 := ⟨wd_386, wd_22, (by decide +kernel), wd_384, wd_385⟩
theorem mf_X1_isEarlierBy : MFv yX1_isEarlierBy cX1_isEarlierBy 4 (some .boolean) RX1 3 := ⟨wd_390, wd_22, (by decide +kernel), wd_388, wd_389⟩
theorem mf_X2_init : MFi yX2_init cX2_init 1 0 := ⟨wd_39, wd_18, (by decide +kernel), wd_38, rfl⟩
theorem mf_X2_save : MFv yX2_save cX2_save 2 none RX2 1 := ⟨wd_93, wd_18, (by decide +kernel), wd_91, wd_92⟩
theorem mf_X2_restore : MFv yX2_restore cX2_restore 2 none RX2 1 := ⟨wd_489, wd_18, (by decide +kernel), wd_487, wd_488⟩
theorem mf_X3_init : MFi yX3_init cX3_init 1 0 := ⟨wd_55, wd_26, (by decide +kernel), wd_54, rfl⟩
theorem mf_X3_vertexOf : MFs yX3_vertexOf cX3_vertexOf 2 (some .int) 2 := ⟨wd_321, wd_26, (by decide +kernel), wd_320⟩
theorem mf_X3_connect : MFv yX3_connect cX3_connect 4 none RX3 2 := ⟨wd_310, wd_26, (by decide +kernel), wd_308, wd_309⟩
theorem mf_X3_obverseOf : MFs yX3_obverseOf cX3_obverseOf 2 (some .int) 2 := ⟨wd_318, wd_26, (by decide +kernel), wd_317⟩
theorem mf_X3_reverseOf : MFs yX3_reverseOf cX3_reverseOf 2 (some .int) 2 := ⟨wd_328, wd_26, (by decide +kernel), wd_327⟩
theorem mf_X3_enterDies : MFv yX3_enterDies cX3_enterDies 3 none RX3 1 := ⟨wd_314, wd_26, (by decide +kernel), wd_312, wd_313⟩
theorem mf_X3_enterDie : MFv yX3_enterDie cX3_enterDie 2 none RX3 1 := ⟨wd_325, wd_26, (by decide +kernel), wd_323, wd_324⟩
theorem mf_X3_join : MFv yX3_join cX3_join 6 none RX3 2 := ⟨wd_332, wd_26, (by decide +kernel), wd_330, wd_331⟩
theorem mf_X3_fallsApartWithout : MFv yX3_fallsApartWithout cX3_fallsApartWithout 3 (some .boolean) RX3 2 := ⟨wd_366, wd_26, (by decide +kernel), wd_364, wd_365⟩
theorem mf_X3_diesAround : MFv yX3_diesAround cX3_diesAround 6 (some .int) RX3 2 := ⟨wd_347, wd_26, (by decide +kernel), wd_345, wd_346⟩
theorem mf_X4_init : MFi yX4_init cX4_init 1 0 := ⟨wd_33, wd_14, (by decide +kernel), wd_32, rfl⟩
theorem mf_X4_has : MFv yX4_has cX4_has 2 (some .boolean) RX4 1 := ⟨wd_122, wd_14, (by decide +kernel), wd_120, wd_121⟩
theorem mf_X4_die : MFv yX4_die cX4_die 3 (some .int) RX4 2 := ⟨wd_162, wd_14, (by decide +kernel), wd_160, wd_161⟩
theorem mf_X4_putDie : MFv yX4_putDie cX4_putDie 4 none RX4 3 := ⟨wd_100, wd_14, (by decide +kernel), wd_98, wd_99⟩
theorem mf_X4_wear : MFv yX4_wear cX4_wear 3 (some .int) RX4 2 := ⟨wd_144, wd_14, (by decide +kernel), wd_142, wd_143⟩
theorem mf_X4_putWear : MFv yX4_putWear cX4_putWear 4 none RX4 3 := ⟨wd_103, wd_14, (by decide +kernel), wd_101, wd_102⟩
theorem mf_X4_close : MFv yX4_close cX4_close 4 none RX4 1 := ⟨wd_125, wd_14, (by decide +kernel), wd_123, wd_124⟩
theorem mf_X4_replaceDie : MFv yX4_replaceDie cX4_replaceDie 6 (some .int) RX4 3 := ⟨wd_165, wd_14, (by decide +kernel), wd_163, wd_164⟩
theorem mf_X4_struckWith : MFv yX4_struckWith cX4_struckWith 5 (some .int) RX4 2 := ⟨wd_158, wd_14, (by decide +kernel), wd_156, wd_157⟩
theorem mf_X4_wearSum : MFv yX4_wearSum cX4_wearSum 5 (some .int) RX4 2 := ⟨wd_224, wd_14, (by decide +kernel), wd_222, wd_223⟩
theorem mf_X4_knownDies : MFv yX4_knownDies cX4_knownDies 4 (some .int) RX4 1 := ⟨wd_200, wd_14, (by decide +kernel), wd_198, wd_199⟩
theorem mf_X4_diesStruckOnce : MFv yX4_diesStruckOnce cX4_diesStruckOnce 4 (some .int) RX4 1 := ⟨wd_454, wd_14, (by decide +kernel), wd_452, wd_453⟩
theorem mf_X5_init : MFi yX5_init cX5_init 1 0 := ⟨wd_8, wd_2, (by decide +kernel), wd_7, rfl⟩
theorem mf_X5_addSpecimen : MFv yX5_addSpecimen cX5_addSpecimen 6 (some .int) RX5 4 := ⟨wd_84, wd_2, (by decide +kernel), wd_82, wd_83⟩
theorem mf_X5_removeSpecimen : MFv yX5_removeSpecimen cX5_removeSpecimen 2 (some .int) RX5 1 := ⟨wd_119, wd_2, (by decide +kernel), wd_117, wd_118⟩
theorem mf_X5_setWear : MFv yX5_setWear cX5_setWear 5 (some .int) RX5 3 := ⟨wd_138, wd_2, (by decide +kernel), wd_136, wd_137⟩
theorem mf_X5_mergeDies : MFv yX5_mergeDies cX5_mergeDies 4 (some .int) RX5 3 := ⟨wd_155, wd_2, (by decide +kernel), wd_153, wd_154⟩
theorem mf_X5_specimenCount : MFv yX5_specimenCount cX5_specimenCount 1 (some .int) RX5 0 := ⟨wd_181, wd_2, (by decide +kernel), wd_179, wd_180⟩
theorem mf_X5_dieOf : MFv yX5_dieOf cX5_dieOf 3 (some .int) RX5 2 := ⟨wd_189, wd_2, (by decide +kernel), wd_187, wd_188⟩
theorem mf_X5_dieCount : MFv yX5_dieCount cX5_dieCount 2 (some .int) RX5 1 := ⟨wd_197, wd_2, (by decide +kernel), wd_195, wd_196⟩
theorem mf_X5_frequency : MFv yX5_frequency cX5_frequency 3 (some .int) RX5 2 := ⟨wd_213, wd_2, (by decide +kernel), wd_211, wd_212⟩
theorem mf_X5_meanWearBits : MFv yX5_meanWearBits cX5_meanWearBits 4 (some .int) RX5 2 := ⟨wd_221, wd_2, (by decide +kernel), wd_219, wd_220⟩
theorem mf_X5_coupleCount : MFv yX5_coupleCount cX5_coupleCount 1 (some .int) RX5 0 := ⟨wd_241, wd_2, (by decide +kernel), wd_239, wd_240⟩
theorem mf_X5_coupleAt : MFv yX5_coupleAt cX5_coupleAt 3 (some .int) RX5 1 := ⟨wd_295, wd_2, (by decide +kernel), wd_293, wd_294⟩
theorem mf_X5_componentCount : MFv yX5_componentCount cX5_componentCount 1 (some .int) RX5 0 := ⟨wd_307, wd_2, (by decide +kernel), wd_305, wd_306⟩
theorem mf_X5_componentSize : MFv yX5_componentSize cX5_componentSize 4 (some .int) RX5 2 := ⟨wd_344, wd_2, (by decide +kernel), wd_342, wd_343⟩
theorem mf_X5_cycleRank : MFv yX5_cycleRank cX5_cycleRank 1 (some .int) RX5 0 := ⟨wd_355, wd_2, (by decide +kernel), wd_353, wd_354⟩
theorem mf_X5_bridgeCount : MFv yX5_bridgeCount cX5_bridgeCount 3 (some .int) RX5 0 := ⟨wd_363, wd_2, (by decide +kernel), wd_361, wd_362⟩
theorem mf_X5_isBridge : MFv yX5_isBridge cX5_isBridge 3 (some .int) RX5 1 := ⟨wd_375, wd_2, (by decide +kernel), wd_373, wd_374⟩
theorem mf_X5_compareCouples : MFv yX5_compareCouples cX5_compareCouples 3 (some .int) RX5 2 := ⟨wd_383, wd_2, (by decide +kernel), wd_381, wd_382⟩
theorem mf_X5_isConsistent : MFv yX5_isConsistent cX5_isConsistent 1 (some .int) RX5 0 := ⟨wd_406, wd_2, (by decide +kernel), wd_404, wd_405⟩
theorem mf_X5_coupleInOrder : MFv yX5_coupleInOrder cX5_coupleInOrder 3 (some .int) RX5 1 := ⟨wd_435, wd_2, (by decide +kernel), wd_433, wd_434⟩
theorem mf_X5_generation : MFv yX5_generation cX5_generation 3 (some .int) RX5 1 := ⟨wd_443, wd_2, (by decide +kernel), wd_441, wd_442⟩
theorem mf_X5_singletons : MFv yX5_singletons cX5_singletons 2 (some .int) RX5 1 := ⟨wd_451, wd_2, (by decide +kernel), wd_449, wd_450⟩
theorem mf_X5_coverageEstimate : MFv yX5_coverageEstimate cX5_coverageEstimate 4 (some .int) RX5 1 := ⟨wd_466, wd_2, (by decide +kernel), wd_464, wd_465⟩
theorem mf_X5_frequencyEstimate : MFv yX5_frequencyEstimate cX5_frequencyEstimate 5 (some .int) RX5 1 := ⟨wd_474, wd_2, (by decide +kernel), wd_472, wd_473⟩
theorem mf_X5_undo : MFv yX5_undo cX5_undo 1 (some .int) RX5 0 := ⟨wd_486, wd_2, (by decide +kernel), wd_484, wd_485⟩
theorem mf_X5_isSide : MFs yX5_isSide cX5_isSide 1 (some .boolean) 1 := ⟨wd_141, wd_2, (by decide +kernel), wd_140⟩
theorem mf_X5_isDie : MFs yX5_isDie cX5_isDie 1 (some .boolean) 1 := ⟨wd_87, wd_2, (by decide +kernel), wd_86⟩
theorem mf_X5_isWear : MFs yX5_isWear cX5_isWear 1 (some .boolean) 1 := ⟨wd_90, wd_2, (by decide +kernel), wd_89⟩
theorem mf_X5_errorOfPlace : MFv yX5_errorOfPlace cX5_errorOfPlace 2 (some .int) RX5 1 := ⟨wd_299, wd_2, (by decide +kernel), wd_297, wd_298⟩
theorem mf_X5_divisorOfFrequencyEstimate : MFs yX5_divisorOfFrequencyEstimate cX5_divisorOfFrequencyEstimate 2 (some .int) 2 := ⟨wd_477, wd_2, (by decide +kernel), wd_476⟩
theorem mf_X5_bitsOf : MFs yX5_bitsOf cX5_bitsOf 4 (some .int) 1 := ⟨wd_228, wd_2, (by decide +kernel), wd_227⟩
theorem mf_X6_init : MFi yX6_init cX6_init 1 0 := ⟨wd_68, wd_5, (by decide +kernel), wd_67, rfl⟩
theorem mf_X6_in : MFs yX6_in cX6_in 3 (some .boolean) 3 := ⟨wd_110, wd_5, (by decide +kernel), wd_109⟩
theorem mf_X6_edit : MFv yX6_edit cX6_edit 2 none RX6 0 := ⟨wd_114, wd_5, (by decide +kernel), wd_112, wd_113⟩
theorem mf_X6_undo : MFv yX6_undo cX6_undo 2 (some .int) RX6 0 := ⟨wd_493, wd_5, (by decide +kernel), wd_491, wd_492⟩
theorem mf_X6_addSpecimen : MFv yX6_addSpecimen cX6_addSpecimen 6 (some .int) RX6 4 := ⟨wd_107, wd_5, (by decide +kernel), wd_105, wd_106⟩
theorem mf_X6_isSpecimen : MFv yX6_isSpecimen cX6_isSpecimen 2 (some .boolean) RX6 1 := ⟨wd_134, wd_5, (by decide +kernel), wd_132, wd_133⟩
theorem mf_X6_removeSpecimen : MFv yX6_removeSpecimen cX6_removeSpecimen 3 (some .int) RX6 1 := ⟨wd_130, wd_5, (by decide +kernel), wd_128, wd_129⟩
theorem mf_X6_isSide : MFs yX6_isSide cX6_isSide 1 (some .boolean) 1 := ⟨wd_151, wd_5, (by decide +kernel), wd_150⟩
theorem mf_X6_setWear : MFv yX6_setWear cX6_setWear 5 (some .int) RX6 3 := ⟨wd_148, wd_5, (by decide +kernel), wd_146, wd_147⟩
theorem mf_X6_specimens : MFv yX6_specimens cX6_specimens 5 (some .int) RX6 2 := ⟨wd_177, wd_5, (by decide +kernel), wd_175, wd_176⟩
theorem mf_X6_isDie : MFs yX6_isDie cX6_isDie 2 (some .boolean) 2 := ⟨wd_173, wd_5, (by decide +kernel), wd_172⟩
theorem mf_X6_mergeDies : MFv yX6_mergeDies cX6_mergeDies 6 (some .int) RX6 3 := ⟨wd_170, wd_5, (by decide +kernel), wd_168, wd_169⟩
theorem mf_X6_specimenCount : MFv yX6_specimenCount cX6_specimenCount 1 (some .int) RX6 0 := ⟨wd_185, wd_5, (by decide +kernel), wd_183, wd_184⟩
theorem mf_X6_dieOf : MFv yX6_dieOf cX6_dieOf 3 (some .int) RX6 2 := ⟨wd_193, wd_5, (by decide +kernel), wd_191, wd_192⟩
theorem mf_X6_known : MFv yX6_known cX6_known 4 (some .int) RX6 1 := ⟨wd_209, wd_5, (by decide +kernel), wd_207, wd_208⟩
theorem mf_X6_dieCount : MFv yX6_dieCount cX6_dieCount 2 (some .int) RX6 1 := ⟨wd_205, wd_5, (by decide +kernel), wd_203, wd_204⟩
theorem mf_X6_frequency : MFv yX6_frequency cX6_frequency 3 (some .int) RX6 2 := ⟨wd_217, wd_5, (by decide +kernel), wd_215, wd_216⟩
theorem mf_X6_bits : MFs yX6_bits cX6_bits 9 (some .int) 2 := ⟨wd_236, wd_5, (by decide +kernel), wd_235⟩
theorem mf_X6_meanWearBits : MFv yX6_meanWearBits cX6_meanWearBits 6 (some .int) RX6 2 := ⟨wd_233, wd_5, (by decide +kernel), wd_231, wd_232⟩
theorem mf_X6_isCouple : MFv yX6_isCouple cX6_isCouple 4 (some .boolean) RX6 3 := ⟨wd_291, wd_5, (by decide +kernel), wd_289, wd_290⟩
theorem mf_X6_finds : MFv yX6_finds cX6_finds 7 none RX6 0 := ⟨wd_287, wd_5, (by decide +kernel), wd_285, wd_286⟩
theorem mf_X6_coupleCount : MFv yX6_coupleCount cX6_coupleCount 1 (some .int) RX6 0 := ⟨wd_282, wd_5, (by decide +kernel), wd_280, wd_281⟩
theorem mf_X6_coupleAt : MFv yX6_coupleAt cX6_coupleAt 2 (some .int) RX6 1 := ⟨wd_303, wd_5, (by decide +kernel), wd_301, wd_302⟩
theorem mf_X6_nets : MFv yX6_nets cX6_nets 6 (some .int) RX6 1 := ⟨wd_340, wd_5, (by decide +kernel), wd_338, wd_339⟩
theorem mf_X6_componentCount : MFv yX6_componentCount cX6_componentCount 1 (some .int) RX6 0 := ⟨wd_336, wd_5, (by decide +kernel), wd_334, wd_335⟩
theorem mf_X6_componentSize : MFv yX6_componentSize cX6_componentSize 5 (some .int) RX6 2 := ⟨wd_351, wd_5, (by decide +kernel), wd_349, wd_350⟩
theorem mf_X6_cycleRank : MFv yX6_cycleRank cX6_cycleRank 1 (some .int) RX6 0 := ⟨wd_359, wd_5, (by decide +kernel), wd_357, wd_358⟩
theorem mf_X6_bridgeCount : MFv yX6_bridgeCount cX6_bridgeCount 4 (some .int) RX6 0 := ⟨wd_371, wd_5, (by decide +kernel), wd_369, wd_370⟩
theorem mf_X6_isBridge : MFv yX6_isBridge cX6_isBridge 2 (some .int) RX6 1 := ⟨wd_379, wd_5, (by decide +kernel), wd_377, wd_378⟩
theorem mf_X6_isBy : MFv yX6_isBy cX6_isBy 4 (some .boolean) RX6 3 := ⟨wd_402, wd_5, (by decide +kernel), wd_400, wd_401⟩
theorem mf_X6_isEarlier : MFv yX6_isEarlier cX6_isEarlier 3 (some .boolean) RX6 2 := ⟨wd_398, wd_5, (by decide +kernel), wd_396, wd_397⟩
theorem mf_X6_compareCouples : MFv yX6_compareCouples cX6_compareCouples 3 (some .int) RX6 2 := ⟨wd_394, wd_5, (by decide +kernel), wd_392, wd_393⟩
theorem mf_X6_places : MFv yX6_places cX6_places 6 (some .boolean) RX6 0 := ⟨wd_431, wd_5, (by decide +kernel), wd_429, wd_430⟩
theorem mf_X6_isConsistent : MFv yX6_isConsistent cX6_isConsistent 1 (some .int) RX6 0 := ⟨wd_427, wd_5, (by decide +kernel), wd_425, wd_426⟩
theorem mf_X6_coupleInOrder : MFv yX6_coupleInOrder cX6_coupleInOrder 2 (some .int) RX6 1 := ⟨wd_439, wd_5, (by decide +kernel), wd_437, wd_438⟩
theorem mf_X6_generation : MFv yX6_generation cX6_generation 2 (some .int) RX6 1 := ⟨wd_447, wd_5, (by decide +kernel), wd_445, wd_446⟩
theorem mf_X6_single : MFv yX6_single cX6_single 4 (some .int) RX6 1 := ⟨wd_462, wd_5, (by decide +kernel), wd_460, wd_461⟩
theorem mf_X6_singletons : MFv yX6_singletons cX6_singletons 2 (some .int) RX6 1 := ⟨wd_458, wd_5, (by decide +kernel), wd_456, wd_457⟩
theorem mf_X6_coverageEstimate : MFv yX6_coverageEstimate cX6_coverageEstimate 4 (some .int) RX6 1 := ⟨wd_470, wd_5, (by decide +kernel), wd_468, wd_469⟩
theorem mf_X6_frequencyEstimate : MFv yX6_frequencyEstimate cX6_frequencyEstimate 5 (some .int) RX6 1 := ⟨wd_481, wd_5, (by decide +kernel), wd_479, wd_480⟩
theorem mf_J7_fill_53178 : MFs yJ7_fill_53178 cJ7_fill_53178 4 none 2 := ⟨wd_252, wd_251, (by decide +kernel), wd_250⟩
