--! 98
/-! THE LAW: its loop -/
theorem lw_lt {a i : Nat} (ha : a ≤ 3072) (hi : i ≤ 4000) : (nI a - nI 6 < nI i) ↔ a < i + 6 := by
  rw [Int32.lt_iff_toInt_lt, Int32.toInt_sub, nI_toInt (by omega), nI_toInt (by omega), nI_toInt (by omega), Int.bmod_eq_of_le (by omega) (by omega)]
  omega
section VC
variable {X : am_X} {e : Nat}
def lwL (i : Nat) : am_LS := [some (.ref 2000000), some (.ref 0), some (.ref 69), some (.int (nI i))]
def lwQ (v : Option Value) (_ : am_M) : Prop := v = some (.int (nI 1))
theorem lw_feed {i n : Nat} {I : Nat → Nat → Int32} {L : Nat → Nat → Int64} {R : Nat → Nat → Option Nat} (hX : X.1 ≤ 3072) (hi : i + 6 ≤ X.1) (H : REL (n, I, L, R)) (ih : ∀ n2 I2 L2 R2, REL (n2, I2, L2, R2) → am_E X (e + 33) mL_law 18 (lwL (i + 6)) [] (n2, I2, L2, R2) lwQ) : am_E X (e + 33) mL_law 192 (lwL i) [] (n, I, L, R) lwQ := by
  have hN : 116 ≤ n := by obtain ⟨σ, H⟩ := H; exact H.1.N
  have h0n : 0 < n := by omega
  have j1 : i + 1 < X.1 := by omega
  have j2 : i + 2 < X.1 := by omega
  have j3 : i + 3 < X.1 := by omega
  have j4 : i + 4 < X.1 := by omega
  have j5 : i + 5 < X.1 := by omega
  unfold lwL
  simp only [am_lv_of, rL_law_192, rL_law_193, rL_law_194, rL_law_195, rL_law_196, rL_law_197 hX, rL_law_198, rL_law_199, rL_law_200, rL_law_201, rL_law_202 hX, rL_law_203, rL_law_204, rL_law_205, rL_law_206, rL_law_207 hX, rL_law_208, rL_law_209, rL_law_210, rL_law_211, rL_law_212 hX, rL_law_213, rL_law_214, rL_law_215, rL_law_216, rL_law_217 hX, rL_law_218, h0n, sh_0, nI_add, j1, j2, j3, j4, j5, am_ci, am_cr, am_cn0, am_s0, am_s1, am_s1r, am_s2, am_s2r, am_s3r, Nat.reduceAdd, Nat.reduceLeDiff]
  refine lw_two (s_feed (d := e + 2) H) rfl (by decide) (fun x n1 I1 L1 R1 hn1 k => ?_)
  have hl1 : 69 < n1 := Nat.lt_of_lt_of_le (Nat.lt_of_lt_of_le (by decide) hN) hn1
  simp only [am_lv_of, Option.toList_some, List.cons_append, List.nil_append, rL_law_221, rL_law_222, rL_law_223, rL_law_224, rL_law_225, rL_law_226 hX, rL_law_227, rL_law_228, rL_law_229, rL_law_230, rL_law_231 hX, rL_law_232, rL_law_233, rL_law_234, rL_law_235, rL_law_236 hX, rL_law_237, rL_law_238, rL_law_239, rL_law_240, rL_law_241 hX, rL_law_242, rL_law_243, rL_law_244, rL_law_245, rL_law_246 hX, rL_law_247, hl1, sh_69, nI_add, j1, j2, j3, j4, j5, am_ci, am_cr, am_cn0, am_s0, am_s1, am_s1r, am_s2, am_s2r, am_s3r, Nat.reduceAdd, Nat.reduceLeDiff]
  refine k _ (fun n2 I2 L2 R2 H2 => ?_)
  simp only [am_lv_of, Option.toList_some, List.cons_append, List.nil_append, rL_law_250, ↓reduceIte, rL_law_1152, rL_law_1155, nI_add, j1, j2, j3, j4, j5, am_ci, am_cr, am_cn0, am_s0, am_s1, am_s1r, am_s2, am_s2r, am_s3r, Nat.reduceAdd, Nat.reduceLeDiff]
  exact ih n2 I2 L2 R2 H2
theorem lw_back {i n : Nat} {I : Nat → Nat → Int32} {L : Nat → Nat → Int64} {R : Nat → Nat → Option Nat} (hX : X.1 ≤ 3072) (hi : i + 6 ≤ X.1) (H : REL (n, I, L, R)) (ih : ∀ n2 I2 L2 R2, REL (n2, I2, L2, R2) → am_E X (e + 33) mL_law 18 (lwL (i + 6)) [] (n2, I2, L2, R2) lwQ) : am_E X (e + 33) mL_law 255 (lwL i) [] (n, I, L, R) lwQ := by
  have hN : 116 ≤ n := by obtain ⟨σ, H⟩ := H; exact H.1.N
  have h0n : 0 < n := by omega
  have j1 : i + 1 < X.1 := by omega
  have j2 : i + 2 < X.1 := by omega
  have j3 : i + 3 < X.1 := by omega
  have j4 : i + 4 < X.1 := by omega
  have j5 : i + 5 < X.1 := by omega
  unfold lwL
  simp only [am_lv_of, rL_law_255, rL_law_256, rL_law_257, rL_law_258, rL_law_259, rL_law_260 hX, rL_law_261, h0n, sh_0, nI_add, j1, j2, j3, j4, j5, am_ci, am_cr, am_cn0, am_s0, am_s1, am_s1r, am_s2, am_s2r, am_s3r, Nat.reduceAdd, Nat.reduceLeDiff]
  refine lw_two (s_back (d := e + 2) H) rfl (by decide) (fun x n1 I1 L1 R1 hn1 k => ?_)
  have hl1 : 69 < n1 := Nat.lt_of_lt_of_le (Nat.lt_of_lt_of_le (by decide) hN) hn1
  simp only [am_lv_of, Option.toList_some, List.cons_append, List.nil_append, rL_law_264, rL_law_265, rL_law_266, rL_law_267, rL_law_268, rL_law_269 hX, rL_law_270, hl1, sh_69, nI_add, j1, j2, j3, j4, j5, am_ci, am_cr, am_cn0, am_s0, am_s1, am_s1r, am_s2, am_s2r, am_s3r, Nat.reduceAdd, Nat.reduceLeDiff]
  refine k _ (fun n2 I2 L2 R2 H2 => ?_)
  simp only [am_lv_of, Option.toList_some, List.cons_append, List.nil_append, rL_law_273, ↓reduceIte, rL_law_1152, rL_law_1155, nI_add, j1, j2, j3, j4, j5, am_ci, am_cr, am_cn0, am_s0, am_s1, am_s1r, am_s2, am_s2r, am_s3r, Nat.reduceAdd, Nat.reduceLeDiff]
  exact ih n2 I2 L2 R2 H2
theorem lw_read {i n : Nat} {I : Nat → Nat → Int32} {L : Nat → Nat → Int64} {R : Nat → Nat → Option Nat} (hX : X.1 ≤ 3072) (hi : i + 6 ≤ X.1) (H : REL (n, I, L, R)) (ih : ∀ n2 I2 L2 R2, REL (n2, I2, L2, R2) → am_E X (e + 33) mL_law 18 (lwL (i + 6)) [] (n2, I2, L2, R2) lwQ) : am_E X (e + 33) mL_law 278 (lwL i) [] (n, I, L, R) lwQ := by
  have hN : 116 ≤ n := by obtain ⟨σ, H⟩ := H; exact H.1.N
  have h0n : 0 < n := by omega
  have j1 : i + 1 < X.1 := by omega
  have j2 : i + 2 < X.1 := by omega
  have j3 : i + 3 < X.1 := by omega
  have j4 : i + 4 < X.1 := by omega
  have j5 : i + 5 < X.1 := by omega
  unfold lwL
  simp only [am_lv_of, rL_law_278, rL_law_279, h0n, sh_0, nI_add, j1, j2, j3, j4, j5, am_ci, am_cr, am_cn0, am_s0, am_s1, am_s1r, am_s2, am_s2r, am_s3r, Nat.reduceAdd, Nat.reduceLeDiff]
  refine lw_two (s_read (d := e) H) rfl (by decide) (fun x n1 I1 L1 R1 hn1 k => ?_)
  have hl1 : 69 < n1 := Nat.lt_of_lt_of_le (Nat.lt_of_lt_of_le (by decide) hN) hn1
  simp only [am_lv_of, Option.toList_some, List.cons_append, List.nil_append, rL_law_282, rL_law_283, hl1, sh_69, nI_add, j1, j2, j3, j4, j5, am_ci, am_cr, am_cn0, am_s0, am_s1, am_s1r, am_s2, am_s2r, am_s3r, Nat.reduceAdd, Nat.reduceLeDiff]
  refine k _ (fun n2 I2 L2 R2 H2 => ?_)
  simp only [am_lv_of, Option.toList_some, List.cons_append, List.nil_append, rL_law_286, ↓reduceIte, rL_law_1152, rL_law_1155, nI_add, j1, j2, j3, j4, j5, am_ci, am_cr, am_cn0, am_s0, am_s1, am_s1r, am_s2, am_s2r, am_s3r, Nat.reduceAdd, Nat.reduceLeDiff]
  exact ih n2 I2 L2 R2 H2
theorem lw_place {i n : Nat} {I : Nat → Nat → Int32} {L : Nat → Nat → Int64} {R : Nat → Nat → Option Nat} (hX : X.1 ≤ 3072) (hi : i + 6 ≤ X.1) (H : REL (n, I, L, R)) (ih : ∀ n2 I2 L2 R2, REL (n2, I2, L2, R2) → am_E X (e + 33) mL_law 18 (lwL (i + 6)) [] (n2, I2, L2, R2) lwQ) : am_E X (e + 33) mL_law 291 (lwL i) [] (n, I, L, R) lwQ := by
  have hN : 116 ≤ n := by obtain ⟨σ, H⟩ := H; exact H.1.N
  have h0n : 0 < n := by omega
  have j1 : i + 1 < X.1 := by omega
  have j2 : i + 2 < X.1 := by omega
  have j3 : i + 3 < X.1 := by omega
  have j4 : i + 4 < X.1 := by omega
  have j5 : i + 5 < X.1 := by omega
  unfold lwL
  simp only [am_lv_of, rL_law_291, rL_law_292, h0n, sh_0, nI_add, j1, j2, j3, j4, j5, am_ci, am_cr, am_cn0, am_s0, am_s1, am_s1r, am_s2, am_s2r, am_s3r, Nat.reduceAdd, Nat.reduceLeDiff]
  refine lw_two (s_place (d := e + 2) H) rfl (by decide) (fun x n1 I1 L1 R1 hn1 k => ?_)
  have hl1 : 69 < n1 := Nat.lt_of_lt_of_le (Nat.lt_of_lt_of_le (by decide) hN) hn1
  simp only [am_lv_of, Option.toList_some, List.cons_append, List.nil_append, rL_law_295, rL_law_296, hl1, sh_69, nI_add, j1, j2, j3, j4, j5, am_ci, am_cr, am_cn0, am_s0, am_s1, am_s1r, am_s2, am_s2r, am_s3r, Nat.reduceAdd, Nat.reduceLeDiff]
  refine k _ (fun n2 I2 L2 R2 H2 => ?_)
  simp only [am_lv_of, Option.toList_some, List.cons_append, List.nil_append, rL_law_299, ↓reduceIte, rL_law_1152, rL_law_1155, nI_add, j1, j2, j3, j4, j5, am_ci, am_cr, am_cn0, am_s0, am_s1, am_s1r, am_s2, am_s2r, am_s3r, Nat.reduceAdd, Nat.reduceLeDiff]
  exact ih n2 I2 L2 R2 H2
theorem lw_puppet {i n : Nat} {I : Nat → Nat → Int32} {L : Nat → Nat → Int64} {R : Nat → Nat → Option Nat} (hX : X.1 ≤ 3072) (hi : i + 6 ≤ X.1) (H : REL (n, I, L, R)) (ih : ∀ n2 I2 L2 R2, REL (n2, I2, L2, R2) → am_E X (e + 33) mL_law 18 (lwL (i + 6)) [] (n2, I2, L2, R2) lwQ) : am_E X (e + 33) mL_law 304 (lwL i) [] (n, I, L, R) lwQ := by
  have hN : 116 ≤ n := by obtain ⟨σ, H⟩ := H; exact H.1.N
  have h0n : 0 < n := by omega
  have j1 : i + 1 < X.1 := by omega
  have j2 : i + 2 < X.1 := by omega
  have j3 : i + 3 < X.1 := by omega
  have j4 : i + 4 < X.1 := by omega
  have j5 : i + 5 < X.1 := by omega
  unfold lwL
  simp only [am_lv_of, rL_law_304, rL_law_305, rL_law_306, rL_law_307, rL_law_308, rL_law_309 hX, rL_law_310, rL_law_311, rL_law_312, rL_law_313, rL_law_314 hX, rL_law_315, h0n, sh_0, nI_add, j1, j2, j3, j4, j5, am_ci, am_cr, am_cn0, am_s0, am_s1, am_s1r, am_s2, am_s2r, am_s3r, Nat.reduceAdd, Nat.reduceLeDiff]
  refine lw_two (s_puppet (d := e + 2) H) rfl (by decide) (fun x n1 I1 L1 R1 hn1 k => ?_)
  have hl1 : 69 < n1 := Nat.lt_of_lt_of_le (Nat.lt_of_lt_of_le (by decide) hN) hn1
  simp only [am_lv_of, Option.toList_some, List.cons_append, List.nil_append, rL_law_318, rL_law_319, rL_law_320, rL_law_321, rL_law_322, rL_law_323 hX, rL_law_324, rL_law_325, rL_law_326, rL_law_327, rL_law_328 hX, rL_law_329, hl1, sh_69, nI_add, j1, j2, j3, j4, j5, am_ci, am_cr, am_cn0, am_s0, am_s1, am_s1r, am_s2, am_s2r, am_s3r, Nat.reduceAdd, Nat.reduceLeDiff]
  refine k _ (fun n2 I2 L2 R2 H2 => ?_)
  simp only [am_lv_of, Option.toList_some, List.cons_append, List.nil_append, rL_law_332, ↓reduceIte, rL_law_1152, rL_law_1155, nI_add, j1, j2, j3, j4, j5, am_ci, am_cr, am_cn0, am_s0, am_s1, am_s1r, am_s2, am_s2r, am_s3r, Nat.reduceAdd, Nat.reduceLeDiff]
  exact ih n2 I2 L2 R2 H2
theorem lw_string {i n : Nat} {I : Nat → Nat → Int32} {L : Nat → Nat → Int64} {R : Nat → Nat → Option Nat} (hX : X.1 ≤ 3072) (hi : i + 6 ≤ X.1) (H : REL (n, I, L, R)) (ih : ∀ n2 I2 L2 R2, REL (n2, I2, L2, R2) → am_E X (e + 33) mL_law 18 (lwL (i + 6)) [] (n2, I2, L2, R2) lwQ) : am_E X (e + 33) mL_law 337 (lwL i) [] (n, I, L, R) lwQ := by
  have hN : 116 ≤ n := by obtain ⟨σ, H⟩ := H; exact H.1.N
  have h0n : 0 < n := by omega
  have j1 : i + 1 < X.1 := by omega
  have j2 : i + 2 < X.1 := by omega
  have j3 : i + 3 < X.1 := by omega
  have j4 : i + 4 < X.1 := by omega
  have j5 : i + 5 < X.1 := by omega
  unfold lwL
  simp only [am_lv_of, rL_law_337, rL_law_338, rL_law_339, rL_law_340, rL_law_341, rL_law_342 hX, rL_law_343, rL_law_344, rL_law_345, rL_law_346, rL_law_347 hX, rL_law_348, h0n, sh_0, nI_add, j1, j2, j3, j4, j5, am_ci, am_cr, am_cn0, am_s0, am_s1, am_s1r, am_s2, am_s2r, am_s3r, Nat.reduceAdd, Nat.reduceLeDiff]
  refine lw_two (s_string (d := e + 2) H) rfl (by decide) (fun x n1 I1 L1 R1 hn1 k => ?_)
  have hl1 : 69 < n1 := Nat.lt_of_lt_of_le (Nat.lt_of_lt_of_le (by decide) hN) hn1
  simp only [am_lv_of, Option.toList_some, List.cons_append, List.nil_append, rL_law_351, rL_law_352, rL_law_353, rL_law_354, rL_law_355, rL_law_356 hX, rL_law_357, rL_law_358, rL_law_359, rL_law_360, rL_law_361 hX, rL_law_362, hl1, sh_69, nI_add, j1, j2, j3, j4, j5, am_ci, am_cr, am_cn0, am_s0, am_s1, am_s1r, am_s2, am_s2r, am_s3r, Nat.reduceAdd, Nat.reduceLeDiff]
  refine k _ (fun n2 I2 L2 R2 H2 => ?_)
  simp only [am_lv_of, Option.toList_some, List.cons_append, List.nil_append, rL_law_365, ↓reduceIte, rL_law_1152, rL_law_1155, nI_add, j1, j2, j3, j4, j5, am_ci, am_cr, am_cn0, am_s0, am_s1, am_s1r, am_s2, am_s2r, am_s3r, Nat.reduceAdd, Nat.reduceLeDiff]
  exact ih n2 I2 L2 R2 H2
theorem lw_court {i n : Nat} {I : Nat → Nat → Int32} {L : Nat → Nat → Int64} {R : Nat → Nat → Option Nat} (hX : X.1 ≤ 3072) (hi : i + 6 ≤ X.1) (H : REL (n, I, L, R)) (ih : ∀ n2 I2 L2 R2, REL (n2, I2, L2, R2) → am_E X (e + 33) mL_law 18 (lwL (i + 6)) [] (n2, I2, L2, R2) lwQ) : am_E X (e + 33) mL_law 370 (lwL i) [] (n, I, L, R) lwQ := by
  have hN : 116 ≤ n := by obtain ⟨σ, H⟩ := H; exact H.1.N
  have h0n : 0 < n := by omega
  have j1 : i + 1 < X.1 := by omega
  have j2 : i + 2 < X.1 := by omega
  have j3 : i + 3 < X.1 := by omega
  have j4 : i + 4 < X.1 := by omega
  have j5 : i + 5 < X.1 := by omega
  unfold lwL
  simp only [am_lv_of, rL_law_370, rL_law_371, rL_law_372, rL_law_373, rL_law_374, rL_law_375 hX, rL_law_376, h0n, sh_0, nI_add, j1, j2, j3, j4, j5, am_ci, am_cr, am_cn0, am_s0, am_s1, am_s1r, am_s2, am_s2r, am_s3r, Nat.reduceAdd, Nat.reduceLeDiff]
  refine lw_two (s_court (d := e + 2) H) rfl (by decide) (fun x n1 I1 L1 R1 hn1 k => ?_)
  have hl1 : 69 < n1 := Nat.lt_of_lt_of_le (Nat.lt_of_lt_of_le (by decide) hN) hn1
  simp only [am_lv_of, Option.toList_some, List.cons_append, List.nil_append, rL_law_379, rL_law_380, rL_law_381, rL_law_382, rL_law_383, rL_law_384 hX, rL_law_385, hl1, sh_69, nI_add, j1, j2, j3, j4, j5, am_ci, am_cr, am_cn0, am_s0, am_s1, am_s1r, am_s2, am_s2r, am_s3r, Nat.reduceAdd, Nat.reduceLeDiff]
  refine k _ (fun n2 I2 L2 R2 H2 => ?_)
  simp only [am_lv_of, Option.toList_some, List.cons_append, List.nil_append, rL_law_388, ↓reduceIte, rL_law_1152, rL_law_1155, nI_add, j1, j2, j3, j4, j5, am_ci, am_cr, am_cn0, am_s0, am_s1, am_s1r, am_s2, am_s2r, am_s3r, Nat.reduceAdd, Nat.reduceLeDiff]
  exact ih n2 I2 L2 R2 H2
theorem lw_may {i n : Nat} {I : Nat → Nat → Int32} {L : Nat → Nat → Int64} {R : Nat → Nat → Option Nat} (hX : X.1 ≤ 3072) (hi : i + 6 ≤ X.1) (H : REL (n, I, L, R)) (ih : ∀ n2 I2 L2 R2, REL (n2, I2, L2, R2) → am_E X (e + 33) mL_law 18 (lwL (i + 6)) [] (n2, I2, L2, R2) lwQ) : am_E X (e + 33) mL_law 393 (lwL i) [] (n, I, L, R) lwQ := by
  have hN : 116 ≤ n := by obtain ⟨σ, H⟩ := H; exact H.1.N
  have h0n : 0 < n := by omega
  have j1 : i + 1 < X.1 := by omega
  have j2 : i + 2 < X.1 := by omega
  have j3 : i + 3 < X.1 := by omega
  have j4 : i + 4 < X.1 := by omega
  have j5 : i + 5 < X.1 := by omega
  unfold lwL
  simp only [am_lv_of, rL_law_393, rL_law_394, rL_law_395, rL_law_396, rL_law_397, rL_law_398 hX, rL_law_399, h0n, sh_0, nI_add, j1, j2, j3, j4, j5, am_ci, am_cr, am_cn0, am_s0, am_s1, am_s1r, am_s2, am_s2r, am_s3r, Nat.reduceAdd, Nat.reduceLeDiff]
  refine lw_two (s_may (d := e + 2) H) rfl (by decide) (fun x n1 I1 L1 R1 hn1 k => ?_)
  have hl1 : 69 < n1 := Nat.lt_of_lt_of_le (Nat.lt_of_lt_of_le (by decide) hN) hn1
  simp only [am_lv_of, Option.toList_some, List.cons_append, List.nil_append, rL_law_402, rL_law_403, rL_law_404, rL_law_405, rL_law_406, rL_law_407 hX, rL_law_408, hl1, sh_69, nI_add, j1, j2, j3, j4, j5, am_ci, am_cr, am_cn0, am_s0, am_s1, am_s1r, am_s2, am_s2r, am_s3r, Nat.reduceAdd, Nat.reduceLeDiff]
  refine k _ (fun n2 I2 L2 R2 H2 => ?_)
  simp only [am_lv_of, Option.toList_some, List.cons_append, List.nil_append, rL_law_411, ↓reduceIte, rL_law_1152, rL_law_1155, nI_add, j1, j2, j3, j4, j5, am_ci, am_cr, am_cn0, am_s0, am_s1, am_s1r, am_s2, am_s2r, am_s3r, Nat.reduceAdd, Nat.reduceLeDiff]
  exact ih n2 I2 L2 R2 H2
theorem lw_pull {i n : Nat} {I : Nat → Nat → Int32} {L : Nat → Nat → Int64} {R : Nat → Nat → Option Nat} (hX : X.1 ≤ 3072) (hi : i + 6 ≤ X.1) (H : REL (n, I, L, R)) (ih : ∀ n2 I2 L2 R2, REL (n2, I2, L2, R2) → am_E X (e + 33) mL_law 18 (lwL (i + 6)) [] (n2, I2, L2, R2) lwQ) : am_E X (e + 33) mL_law 416 (lwL i) [] (n, I, L, R) lwQ := by
  have hN : 116 ≤ n := by obtain ⟨σ, H⟩ := H; exact H.1.N
  have h0n : 0 < n := by omega
  have j1 : i + 1 < X.1 := by omega
  have j2 : i + 2 < X.1 := by omega
  have j3 : i + 3 < X.1 := by omega
  have j4 : i + 4 < X.1 := by omega
  have j5 : i + 5 < X.1 := by omega
  unfold lwL
  simp only [am_lv_of, rL_law_416, rL_law_417, rL_law_418, rL_law_419, rL_law_420, rL_law_421 hX, rL_law_422, h0n, sh_0, nI_add, j1, j2, j3, j4, j5, am_ci, am_cr, am_cn0, am_s0, am_s1, am_s1r, am_s2, am_s2r, am_s3r, Nat.reduceAdd, Nat.reduceLeDiff]
  refine lw_two (s_pull (d := e + 2) H) rfl (by decide) (fun x n1 I1 L1 R1 hn1 k => ?_)
  have hl1 : 69 < n1 := Nat.lt_of_lt_of_le (Nat.lt_of_lt_of_le (by decide) hN) hn1
  simp only [am_lv_of, Option.toList_some, List.cons_append, List.nil_append, rL_law_425, rL_law_426, rL_law_427, rL_law_428, rL_law_429, rL_law_430 hX, rL_law_431, hl1, sh_69, nI_add, j1, j2, j3, j4, j5, am_ci, am_cr, am_cn0, am_s0, am_s1, am_s1r, am_s2, am_s2r, am_s3r, Nat.reduceAdd, Nat.reduceLeDiff]
  refine k _ (fun n2 I2 L2 R2 H2 => ?_)
  simp only [am_lv_of, Option.toList_some, List.cons_append, List.nil_append, rL_law_434, ↓reduceIte, rL_law_1152, rL_law_1155, nI_add, j1, j2, j3, j4, j5, am_ci, am_cr, am_cn0, am_s0, am_s1, am_s1r, am_s2, am_s2r, am_s3r, Nat.reduceAdd, Nat.reduceLeDiff]
  exact ih n2 I2 L2 R2 H2
theorem lw_pass {i n : Nat} {I : Nat → Nat → Int32} {L : Nat → Nat → Int64} {R : Nat → Nat → Option Nat} (hX : X.1 ≤ 3072) (hi : i + 6 ≤ X.1) (H : REL (n, I, L, R)) (ih : ∀ n2 I2 L2 R2, REL (n2, I2, L2, R2) → am_E X (e + 33) mL_law 18 (lwL (i + 6)) [] (n2, I2, L2, R2) lwQ) : am_E X (e + 33) mL_law 439 (lwL i) [] (n, I, L, R) lwQ := by
  have hN : 116 ≤ n := by obtain ⟨σ, H⟩ := H; exact H.1.N
  have h0n : 0 < n := by omega
  have j1 : i + 1 < X.1 := by omega
  have j2 : i + 2 < X.1 := by omega
  have j3 : i + 3 < X.1 := by omega
  have j4 : i + 4 < X.1 := by omega
  have j5 : i + 5 < X.1 := by omega
  unfold lwL
  simp only [am_lv_of, rL_law_439, rL_law_440, h0n, sh_0, nI_add, j1, j2, j3, j4, j5, am_ci, am_cr, am_cn0, am_s0, am_s1, am_s1r, am_s2, am_s2r, am_s3r, Nat.reduceAdd, Nat.reduceLeDiff]
  refine lw_two (s_pass (d := e + 2) H) rfl (by decide) (fun x n1 I1 L1 R1 hn1 k => ?_)
  have hl1 : 69 < n1 := Nat.lt_of_lt_of_le (Nat.lt_of_lt_of_le (by decide) hN) hn1
  simp only [am_lv_of, Option.toList_some, List.cons_append, List.nil_append, rL_law_443, rL_law_444, hl1, sh_69, nI_add, j1, j2, j3, j4, j5, am_ci, am_cr, am_cn0, am_s0, am_s1, am_s1r, am_s2, am_s2r, am_s3r, Nat.reduceAdd, Nat.reduceLeDiff]
  refine k _ (fun n2 I2 L2 R2 H2 => ?_)
  simp only [am_lv_of, Option.toList_some, List.cons_append, List.nil_append, rL_law_447, ↓reduceIte, rL_law_1152, rL_law_1155, nI_add, j1, j2, j3, j4, j5, am_ci, am_cr, am_cn0, am_s0, am_s1, am_s1r, am_s2, am_s2r, am_s3r, Nat.reduceAdd, Nat.reduceLeDiff]
  exact ih n2 I2 L2 R2 H2
theorem lw_open {i n : Nat} {I : Nat → Nat → Int32} {L : Nat → Nat → Int64} {R : Nat → Nat → Option Nat} (hX : X.1 ≤ 3072) (hi : i + 6 ≤ X.1) (H : REL (n, I, L, R)) (ih : ∀ n2 I2 L2 R2, REL (n2, I2, L2, R2) → am_E X (e + 33) mL_law 18 (lwL (i + 6)) [] (n2, I2, L2, R2) lwQ) : am_E X (e + 33) mL_law 452 (lwL i) [] (n, I, L, R) lwQ := by
  have hN : 116 ≤ n := by obtain ⟨σ, H⟩ := H; exact H.1.N
  have h0n : 0 < n := by omega
  have j1 : i + 1 < X.1 := by omega
  have j2 : i + 2 < X.1 := by omega
  have j3 : i + 3 < X.1 := by omega
  have j4 : i + 4 < X.1 := by omega
  have j5 : i + 5 < X.1 := by omega
  unfold lwL
  simp only [am_lv_of, rL_law_452, rL_law_453, h0n, sh_0, nI_add, j1, j2, j3, j4, j5, am_ci, am_cr, am_cn0, am_s0, am_s1, am_s1r, am_s2, am_s2r, am_s3r, Nat.reduceAdd, Nat.reduceLeDiff]
  refine lw_two (s_open (d := e + 2) H) rfl (by decide) (fun x n1 I1 L1 R1 hn1 k => ?_)
  have hl1 : 69 < n1 := Nat.lt_of_lt_of_le (Nat.lt_of_lt_of_le (by decide) hN) hn1
  simp only [am_lv_of, Option.toList_some, List.cons_append, List.nil_append, rL_law_456, rL_law_457, hl1, sh_69, nI_add, j1, j2, j3, j4, j5, am_ci, am_cr, am_cn0, am_s0, am_s1, am_s1r, am_s2, am_s2r, am_s3r, Nat.reduceAdd, Nat.reduceLeDiff]
  refine k _ (fun n2 I2 L2 R2 H2 => ?_)
  simp only [am_lv_of, Option.toList_some, List.cons_append, List.nil_append, rL_law_460, ↓reduceIte, rL_law_1152, rL_law_1155, nI_add, j1, j2, j3, j4, j5, am_ci, am_cr, am_cn0, am_s0, am_s1, am_s1r, am_s2, am_s2r, am_s3r, Nat.reduceAdd, Nat.reduceLeDiff]
  exact ih n2 I2 L2 R2 H2
theorem lw_undo {i n : Nat} {I : Nat → Nat → Int32} {L : Nat → Nat → Int64} {R : Nat → Nat → Option Nat} (hX : X.1 ≤ 3072) (hi : i + 6 ≤ X.1) (H : REL (n, I, L, R)) (ih : ∀ n2 I2 L2 R2, REL (n2, I2, L2, R2) → am_E X (e + 33) mL_law 18 (lwL (i + 6)) [] (n2, I2, L2, R2) lwQ) : am_E X (e + 33) mL_law 465 (lwL i) [] (n, I, L, R) lwQ := by
  have hN : 116 ≤ n := by obtain ⟨σ, H⟩ := H; exact H.1.N
  have h0n : 0 < n := by omega
  have j1 : i + 1 < X.1 := by omega
  have j2 : i + 2 < X.1 := by omega
  have j3 : i + 3 < X.1 := by omega
  have j4 : i + 4 < X.1 := by omega
  have j5 : i + 5 < X.1 := by omega
  unfold lwL
  simp only [am_lv_of, rL_law_465, rL_law_466, h0n, sh_0, nI_add, j1, j2, j3, j4, j5, am_ci, am_cr, am_cn0, am_s0, am_s1, am_s1r, am_s2, am_s2r, am_s3r, Nat.reduceAdd, Nat.reduceLeDiff]
  refine lw_two (s_undo (d := e + 2) H) rfl (by decide) (fun x n1 I1 L1 R1 hn1 k => ?_)
  have hl1 : 69 < n1 := Nat.lt_of_lt_of_le (Nat.lt_of_lt_of_le (by decide) hN) hn1
  simp only [am_lv_of, Option.toList_some, List.cons_append, List.nil_append, rL_law_469, rL_law_470, hl1, sh_69, nI_add, j1, j2, j3, j4, j5, am_ci, am_cr, am_cn0, am_s0, am_s1, am_s1r, am_s2, am_s2r, am_s3r, Nat.reduceAdd, Nat.reduceLeDiff]
  refine k _ (fun n2 I2 L2 R2 H2 => ?_)
  simp only [am_lv_of, Option.toList_some, List.cons_append, List.nil_append, rL_law_473, ↓reduceIte, rL_law_1152, rL_law_1155, nI_add, j1, j2, j3, j4, j5, am_ci, am_cr, am_cn0, am_s0, am_s1, am_s1r, am_s2, am_s2r, am_s3r, Nat.reduceAdd, Nat.reduceLeDiff]
  exact ih n2 I2 L2 R2 H2
theorem lw_after {i n : Nat} {I : Nat → Nat → Int32} {L : Nat → Nat → Int64} {R : Nat → Nat → Option Nat} (hX : X.1 ≤ 3072) (hi : i + 6 ≤ X.1) (H : REL (n, I, L, R)) (ih : ∀ n2 I2 L2 R2, REL (n2, I2, L2, R2) → am_E X (e + 33) mL_law 18 (lwL (i + 6)) [] (n2, I2, L2, R2) lwQ) : am_E X (e + 33) mL_law 478 (lwL i) [] (n, I, L, R) lwQ := by
  have hN : 116 ≤ n := by obtain ⟨σ, H⟩ := H; exact H.1.N
  have h0n : 0 < n := by omega
  have j1 : i + 1 < X.1 := by omega
  have j2 : i + 2 < X.1 := by omega
  have j3 : i + 3 < X.1 := by omega
  have j4 : i + 4 < X.1 := by omega
  have j5 : i + 5 < X.1 := by omega
  unfold lwL
  simp only [am_lv_of, rL_law_478, rL_law_479, rL_law_480, rL_law_481, rL_law_482, rL_law_483 hX, rL_law_484, rL_law_485, rL_law_486, rL_law_487, rL_law_488 hX, rL_law_489, h0n, sh_0, nI_add, j1, j2, j3, j4, j5, am_ci, am_cr, am_cn0, am_s0, am_s1, am_s1r, am_s2, am_s2r, am_s3r, Nat.reduceAdd, Nat.reduceLeDiff]
  refine lw_two (s_after (d := e + 2) H) rfl (by decide) (fun x n1 I1 L1 R1 hn1 k => ?_)
  have hl1 : 69 < n1 := Nat.lt_of_lt_of_le (Nat.lt_of_lt_of_le (by decide) hN) hn1
  simp only [am_lv_of, Option.toList_some, List.cons_append, List.nil_append, rL_law_492, rL_law_493, rL_law_494, rL_law_495, rL_law_496, rL_law_497 hX, rL_law_498, rL_law_499, rL_law_500, rL_law_501, rL_law_502 hX, rL_law_503, hl1, sh_69, nI_add, j1, j2, j3, j4, j5, am_ci, am_cr, am_cn0, am_s0, am_s1, am_s1r, am_s2, am_s2r, am_s3r, Nat.reduceAdd, Nat.reduceLeDiff]
  refine k _ (fun n2 I2 L2 R2 H2 => ?_)
  simp only [am_lv_of, Option.toList_some, List.cons_append, List.nil_append, rL_law_506, ↓reduceIte, rL_law_1152, rL_law_1155, nI_add, j1, j2, j3, j4, j5, am_ci, am_cr, am_cn0, am_s0, am_s1, am_s1r, am_s2, am_s2r, am_s3r, Nat.reduceAdd, Nat.reduceLeDiff]
  exact ih n2 I2 L2 R2 H2
theorem lw_shortest {i n : Nat} {I : Nat → Nat → Int32} {L : Nat → Nat → Int64} {R : Nat → Nat → Option Nat} (hX : X.1 ≤ 3072) (hi : i + 6 ≤ X.1) (H : REL (n, I, L, R)) (ih : ∀ n2 I2 L2 R2, REL (n2, I2, L2, R2) → am_E X (e + 33) mL_law 18 (lwL (i + 6)) [] (n2, I2, L2, R2) lwQ) : am_E X (e + 33) mL_law 511 (lwL i) [] (n, I, L, R) lwQ := by
  have hN : 116 ≤ n := by obtain ⟨σ, H⟩ := H; exact H.1.N
  have h0n : 0 < n := by omega
  have j1 : i + 1 < X.1 := by omega
  have j2 : i + 2 < X.1 := by omega
  have j3 : i + 3 < X.1 := by omega
  have j4 : i + 4 < X.1 := by omega
  have j5 : i + 5 < X.1 := by omega
  unfold lwL
  simp only [am_lv_of, rL_law_511, rL_law_512, rL_law_513, rL_law_514, rL_law_515, rL_law_516 hX, rL_law_517, rL_law_518, rL_law_519, rL_law_520, rL_law_521 hX, rL_law_522, h0n, sh_0, nI_add, j1, j2, j3, j4, j5, am_ci, am_cr, am_cn0, am_s0, am_s1, am_s1r, am_s2, am_s2r, am_s3r, Nat.reduceAdd, Nat.reduceLeDiff]
  refine lw_two (s_shortest (d := e + 2) H) rfl (by decide) (fun x n1 I1 L1 R1 hn1 k => ?_)
  have hl1 : 69 < n1 := Nat.lt_of_lt_of_le (Nat.lt_of_lt_of_le (by decide) hN) hn1
  simp only [am_lv_of, Option.toList_some, List.cons_append, List.nil_append, rL_law_525, rL_law_526, rL_law_527, rL_law_528, rL_law_529, rL_law_530 hX, rL_law_531, rL_law_532, rL_law_533, rL_law_534, rL_law_535 hX, rL_law_536, hl1, sh_69, nI_add, j1, j2, j3, j4, j5, am_ci, am_cr, am_cn0, am_s0, am_s1, am_s1r, am_s2, am_s2r, am_s3r, Nat.reduceAdd, Nat.reduceLeDiff]
  refine k _ (fun n2 I2 L2 R2 H2 => ?_)
  simp only [am_lv_of, Option.toList_some, List.cons_append, List.nil_append, rL_law_539, ↓reduceIte, rL_law_1152, rL_law_1155, nI_add, j1, j2, j3, j4, j5, am_ci, am_cr, am_cn0, am_s0, am_s1, am_s1r, am_s2, am_s2r, am_s3r, Nat.reduceAdd, Nat.reduceLeDiff]
  exact ih n2 I2 L2 R2 H2
theorem lw_force {i n : Nat} {I : Nat → Nat → Int32} {L : Nat → Nat → Int64} {R : Nat → Nat → Option Nat} (hX : X.1 ≤ 3072) (hi : i + 6 ≤ X.1) (H : REL (n, I, L, R)) (ih : ∀ n2 I2 L2 R2, REL (n2, I2, L2, R2) → am_E X (e + 33) mL_law 18 (lwL (i + 6)) [] (n2, I2, L2, R2) lwQ) : am_E X (e + 33) mL_law 544 (lwL i) [] (n, I, L, R) lwQ := by
  have hN : 116 ≤ n := by obtain ⟨σ, H⟩ := H; exact H.1.N
  have h0n : 0 < n := by omega
  have j1 : i + 1 < X.1 := by omega
  have j2 : i + 2 < X.1 := by omega
  have j3 : i + 3 < X.1 := by omega
  have j4 : i + 4 < X.1 := by omega
  have j5 : i + 5 < X.1 := by omega
  unfold lwL
  simp only [am_lv_of, rL_law_544, rL_law_545, rL_law_546, rL_law_547, rL_law_548, rL_law_549 hX, rL_law_550, rL_law_551, rL_law_552, rL_law_553, rL_law_554 hX, rL_law_555, h0n, sh_0, nI_add, j1, j2, j3, j4, j5, am_ci, am_cr, am_cn0, am_s0, am_s1, am_s1r, am_s2, am_s2r, am_s3r, Nat.reduceAdd, Nat.reduceLeDiff]
  refine lw_two (s_force (d := e + 2) H) rfl (by decide) (fun x n1 I1 L1 R1 hn1 k => ?_)
  have hl1 : 69 < n1 := Nat.lt_of_lt_of_le (Nat.lt_of_lt_of_le (by decide) hN) hn1
  simp only [am_lv_of, Option.toList_some, List.cons_append, List.nil_append, rL_law_558, rL_law_559, rL_law_560, rL_law_561, rL_law_562, rL_law_563 hX, rL_law_564, rL_law_565, rL_law_566, rL_law_567, rL_law_568 hX, rL_law_569, hl1, sh_69, nI_add, j1, j2, j3, j4, j5, am_ci, am_cr, am_cn0, am_s0, am_s1, am_s1r, am_s2, am_s2r, am_s3r, Nat.reduceAdd, Nat.reduceLeDiff]
  refine k _ (fun n2 I2 L2 R2 H2 => ?_)
  simp only [am_lv_of, Option.toList_some, List.cons_append, List.nil_append, rL_law_572, ↓reduceIte, rL_law_1152, rL_law_1155, nI_add, j1, j2, j3, j4, j5, am_ci, am_cr, am_cn0, am_s0, am_s1, am_s1r, am_s2, am_s2r, am_s3r, Nat.reduceAdd, Nat.reduceLeDiff]
  exact ih n2 I2 L2 R2 H2
theorem lw_straight {i n : Nat} {I : Nat → Nat → Int32} {L : Nat → Nat → Int64} {R : Nat → Nat → Option Nat} (hX : X.1 ≤ 3072) (hi : i + 6 ≤ X.1) (H : REL (n, I, L, R)) (ih : ∀ n2 I2 L2 R2, REL (n2, I2, L2, R2) → am_E X (e + 33) mL_law 18 (lwL (i + 6)) [] (n2, I2, L2, R2) lwQ) : am_E X (e + 33) mL_law 577 (lwL i) [] (n, I, L, R) lwQ := by
  have hN : 116 ≤ n := by obtain ⟨σ, H⟩ := H; exact H.1.N
  have h0n : 0 < n := by omega
  have j1 : i + 1 < X.1 := by omega
  have j2 : i + 2 < X.1 := by omega
  have j3 : i + 3 < X.1 := by omega
  have j4 : i + 4 < X.1 := by omega
  have j5 : i + 5 < X.1 := by omega
  unfold lwL
  simp only [am_lv_of, rL_law_577, rL_law_578, h0n, sh_0, nI_add, j1, j2, j3, j4, j5, am_ci, am_cr, am_cn0, am_s0, am_s1, am_s1r, am_s2, am_s2r, am_s3r, Nat.reduceAdd, Nat.reduceLeDiff]
  refine lw_two (s_straight (d := e + 2) H) rfl (by decide) (fun x n1 I1 L1 R1 hn1 k => ?_)
  have hl1 : 69 < n1 := Nat.lt_of_lt_of_le (Nat.lt_of_lt_of_le (by decide) hN) hn1
  simp only [am_lv_of, Option.toList_some, List.cons_append, List.nil_append, rL_law_581, rL_law_582, hl1, sh_69, nI_add, j1, j2, j3, j4, j5, am_ci, am_cr, am_cn0, am_s0, am_s1, am_s1r, am_s2, am_s2r, am_s3r, Nat.reduceAdd, Nat.reduceLeDiff]
  refine k _ (fun n2 I2 L2 R2 H2 => ?_)
  simp only [am_lv_of, Option.toList_some, List.cons_append, List.nil_append, rL_law_585, ↓reduceIte, rL_law_1152, rL_law_1155, nI_add, j1, j2, j3, j4, j5, am_ci, am_cr, am_cn0, am_s0, am_s1, am_s1r, am_s2, am_s2r, am_s3r, Nat.reduceAdd, Nat.reduceLeDiff]
  exact ih n2 I2 L2 R2 H2
theorem lw_reach {i n : Nat} {I : Nat → Nat → Int32} {L : Nat → Nat → Int64} {R : Nat → Nat → Option Nat} (hX : X.1 ≤ 3072) (hi : i + 6 ≤ X.1) (H : REL (n, I, L, R)) (ih : ∀ n2 I2 L2 R2, REL (n2, I2, L2, R2) → am_E X (e + 33) mL_law 18 (lwL (i + 6)) [] (n2, I2, L2, R2) lwQ) : am_E X (e + 33) mL_law 590 (lwL i) [] (n, I, L, R) lwQ := by
  have hN : 116 ≤ n := by obtain ⟨σ, H⟩ := H; exact H.1.N
  have h0n : 0 < n := by omega
  have j1 : i + 1 < X.1 := by omega
  have j2 : i + 2 < X.1 := by omega
  have j3 : i + 3 < X.1 := by omega
  have j4 : i + 4 < X.1 := by omega
  have j5 : i + 5 < X.1 := by omega
  unfold lwL
  simp only [am_lv_of, rL_law_590, rL_law_591, rL_law_592, rL_law_593, rL_law_594, rL_law_595 hX, rL_law_596, rL_law_597, rL_law_598, rL_law_599, rL_law_600 hX, rL_law_601, h0n, sh_0, nI_add, j1, j2, j3, j4, j5, am_ci, am_cr, am_cn0, am_s0, am_s1, am_s1r, am_s2, am_s2r, am_s3r, Nat.reduceAdd, Nat.reduceLeDiff]
  refine lw_two (s_reach (d := e + 2) H) rfl (by decide) (fun x n1 I1 L1 R1 hn1 k => ?_)
  have hl1 : 69 < n1 := Nat.lt_of_lt_of_le (Nat.lt_of_lt_of_le (by decide) hN) hn1
  simp only [am_lv_of, Option.toList_some, List.cons_append, List.nil_append, rL_law_604, rL_law_605, rL_law_606, rL_law_607, rL_law_608, rL_law_609 hX, rL_law_610, rL_law_611, rL_law_612, rL_law_613, rL_law_614 hX, rL_law_615, hl1, sh_69, nI_add, j1, j2, j3, j4, j5, am_ci, am_cr, am_cn0, am_s0, am_s1, am_s1r, am_s2, am_s2r, am_s3r, Nat.reduceAdd, Nat.reduceLeDiff]
  refine k _ (fun n2 I2 L2 R2 H2 => ?_)
  simp only [am_lv_of, Option.toList_some, List.cons_append, List.nil_append, rL_law_618, ↓reduceIte, rL_law_1152, rL_law_1155, nI_add, j1, j2, j3, j4, j5, am_ci, am_cr, am_cn0, am_s0, am_s1, am_s1r, am_s2, am_s2r, am_s3r, Nat.reduceAdd, Nat.reduceLeDiff]
  exact ih n2 I2 L2 R2 H2
theorem lw_strong {i n : Nat} {I : Nat → Nat → Int32} {L : Nat → Nat → Int64} {R : Nat → Nat → Option Nat} (hX : X.1 ≤ 3072) (hi : i + 6 ≤ X.1) (H : REL (n, I, L, R)) (ih : ∀ n2 I2 L2 R2, REL (n2, I2, L2, R2) → am_E X (e + 33) mL_law 18 (lwL (i + 6)) [] (n2, I2, L2, R2) lwQ) : am_E X (e + 33) mL_law 623 (lwL i) [] (n, I, L, R) lwQ := by
  have hN : 116 ≤ n := by obtain ⟨σ, H⟩ := H; exact H.1.N
  have h0n : 0 < n := by omega
  have j1 : i + 1 < X.1 := by omega
  have j2 : i + 2 < X.1 := by omega
  have j3 : i + 3 < X.1 := by omega
  have j4 : i + 4 < X.1 := by omega
  have j5 : i + 5 < X.1 := by omega
  unfold lwL
  simp only [am_lv_of, rL_law_623, rL_law_624, rL_law_625, rL_law_626, rL_law_627, rL_law_628 hX, rL_law_629, h0n, sh_0, nI_add, j1, j2, j3, j4, j5, am_ci, am_cr, am_cn0, am_s0, am_s1, am_s1r, am_s2, am_s2r, am_s3r, Nat.reduceAdd, Nat.reduceLeDiff]
  refine lw_two (s_strong (d := e + 2) H) rfl (by decide) (fun x n1 I1 L1 R1 hn1 k => ?_)
  have hl1 : 69 < n1 := Nat.lt_of_lt_of_le (Nat.lt_of_lt_of_le (by decide) hN) hn1
  simp only [am_lv_of, Option.toList_some, List.cons_append, List.nil_append, rL_law_632, rL_law_633, rL_law_634, rL_law_635, rL_law_636, rL_law_637 hX, rL_law_638, hl1, sh_69, nI_add, j1, j2, j3, j4, j5, am_ci, am_cr, am_cn0, am_s0, am_s1, am_s1r, am_s2, am_s2r, am_s3r, Nat.reduceAdd, Nat.reduceLeDiff]
  refine k _ (fun n2 I2 L2 R2 H2 => ?_)
  simp only [am_lv_of, Option.toList_some, List.cons_append, List.nil_append, rL_law_641, ↓reduceIte, rL_law_1152, rL_law_1155, nI_add, j1, j2, j3, j4, j5, am_ci, am_cr, am_cn0, am_s0, am_s1, am_s1r, am_s2, am_s2r, am_s3r, Nat.reduceAdd, Nat.reduceLeDiff]
  exact ih n2 I2 L2 R2 H2
theorem lw_free {i n : Nat} {I : Nat → Nat → Int32} {L : Nat → Nat → Int64} {R : Nat → Nat → Option Nat} (hX : X.1 ≤ 3072) (hi : i + 6 ≤ X.1) (H : REL (n, I, L, R)) (ih : ∀ n2 I2 L2 R2, REL (n2, I2, L2, R2) → am_E X (e + 33) mL_law 18 (lwL (i + 6)) [] (n2, I2, L2, R2) lwQ) : am_E X (e + 33) mL_law 646 (lwL i) [] (n, I, L, R) lwQ := by
  have hN : 116 ≤ n := by obtain ⟨σ, H⟩ := H; exact H.1.N
  have h0n : 0 < n := by omega
  have j1 : i + 1 < X.1 := by omega
  have j2 : i + 2 < X.1 := by omega
  have j3 : i + 3 < X.1 := by omega
  have j4 : i + 4 < X.1 := by omega
  have j5 : i + 5 < X.1 := by omega
  unfold lwL
  simp only [am_lv_of, rL_law_646, rL_law_647, rL_law_648, rL_law_649, rL_law_650, rL_law_651 hX, rL_law_652, h0n, sh_0, nI_add, j1, j2, j3, j4, j5, am_ci, am_cr, am_cn0, am_s0, am_s1, am_s1r, am_s2, am_s2r, am_s3r, Nat.reduceAdd, Nat.reduceLeDiff]
  refine lw_two (s_free (d := e + 2) H) rfl (by decide) (fun x n1 I1 L1 R1 hn1 k => ?_)
  have hl1 : 69 < n1 := Nat.lt_of_lt_of_le (Nat.lt_of_lt_of_le (by decide) hN) hn1
  simp only [am_lv_of, Option.toList_some, List.cons_append, List.nil_append, rL_law_655, rL_law_656, rL_law_657, rL_law_658, rL_law_659, rL_law_660 hX, rL_law_661, hl1, sh_69, nI_add, j1, j2, j3, j4, j5, am_ci, am_cr, am_cn0, am_s0, am_s1, am_s1r, am_s2, am_s2r, am_s3r, Nat.reduceAdd, Nat.reduceLeDiff]
  refine k _ (fun n2 I2 L2 R2 H2 => ?_)
  simp only [am_lv_of, Option.toList_some, List.cons_append, List.nil_append, rL_law_664, ↓reduceIte, rL_law_1152, rL_law_1155, nI_add, j1, j2, j3, j4, j5, am_ci, am_cr, am_cn0, am_s0, am_s1, am_s1r, am_s2, am_s2r, am_s3r, Nat.reduceAdd, Nat.reduceLeDiff]
  exact ih n2 I2 L2 R2 H2
theorem lw_worn {i n : Nat} {I : Nat → Nat → Int32} {L : Nat → Nat → Int64} {R : Nat → Nat → Option Nat} (hX : X.1 ≤ 3072) (hi : i + 6 ≤ X.1) (H : REL (n, I, L, R)) (ih : ∀ n2 I2 L2 R2, REL (n2, I2, L2, R2) → am_E X (e + 33) mL_law 18 (lwL (i + 6)) [] (n2, I2, L2, R2) lwQ) : am_E X (e + 33) mL_law 669 (lwL i) [] (n, I, L, R) lwQ := by
  have hN : 116 ≤ n := by obtain ⟨σ, H⟩ := H; exact H.1.N
  have h0n : 0 < n := by omega
  have j1 : i + 1 < X.1 := by omega
  have j2 : i + 2 < X.1 := by omega
  have j3 : i + 3 < X.1 := by omega
  have j4 : i + 4 < X.1 := by omega
  have j5 : i + 5 < X.1 := by omega
  unfold lwL
  simp only [am_lv_of, rL_law_669, rL_law_670, h0n, sh_0, nI_add, j1, j2, j3, j4, j5, am_ci, am_cr, am_cn0, am_s0, am_s1, am_s1r, am_s2, am_s2r, am_s3r, Nat.reduceAdd, Nat.reduceLeDiff]
  refine lw_two (s_worn (d := e + 2) H) rfl (by decide) (fun x n1 I1 L1 R1 hn1 k => ?_)
  have hl1 : 69 < n1 := Nat.lt_of_lt_of_le (Nat.lt_of_lt_of_le (by decide) hN) hn1
  simp only [am_lv_of, Option.toList_some, List.cons_append, List.nil_append, rL_law_673, rL_law_674, hl1, sh_69, nI_add, j1, j2, j3, j4, j5, am_ci, am_cr, am_cn0, am_s0, am_s1, am_s1r, am_s2, am_s2r, am_s3r, Nat.reduceAdd, Nat.reduceLeDiff]
  refine k _ (fun n2 I2 L2 R2 H2 => ?_)
  simp only [am_lv_of, Option.toList_some, List.cons_append, List.nil_append, rL_law_677, ↓reduceIte, rL_law_1152, rL_law_1155, nI_add, j1, j2, j3, j4, j5, am_ci, am_cr, am_cn0, am_s0, am_s1, am_s1r, am_s2, am_s2r, am_s3r, Nat.reduceAdd, Nat.reduceLeDiff]
  exact ih n2 I2 L2 R2 H2
theorem lw_verdicts {i n : Nat} {I : Nat → Nat → Int32} {L : Nat → Nat → Int64} {R : Nat → Nat → Option Nat} (hX : X.1 ≤ 3072) (hi : i + 6 ≤ X.1) (H : REL (n, I, L, R)) (ih : ∀ n2 I2 L2 R2, REL (n2, I2, L2, R2) → am_E X (e + 33) mL_law 18 (lwL (i + 6)) [] (n2, I2, L2, R2) lwQ) : am_E X (e + 33) mL_law 682 (lwL i) [] (n, I, L, R) lwQ := by
  have hN : 116 ≤ n := by obtain ⟨σ, H⟩ := H; exact H.1.N
  have h0n : 0 < n := by omega
  have j1 : i + 1 < X.1 := by omega
  have j2 : i + 2 < X.1 := by omega
  have j3 : i + 3 < X.1 := by omega
  have j4 : i + 4 < X.1 := by omega
  have j5 : i + 5 < X.1 := by omega
  unfold lwL
  simp only [am_lv_of, rL_law_682, rL_law_683, h0n, sh_0, nI_add, j1, j2, j3, j4, j5, am_ci, am_cr, am_cn0, am_s0, am_s1, am_s1r, am_s2, am_s2r, am_s3r, Nat.reduceAdd, Nat.reduceLeDiff]
  refine lw_two (s_verdicts (d := e + 2) H) rfl (by decide) (fun x n1 I1 L1 R1 hn1 k => ?_)
  have hl1 : 69 < n1 := Nat.lt_of_lt_of_le (Nat.lt_of_lt_of_le (by decide) hN) hn1
  simp only [am_lv_of, Option.toList_some, List.cons_append, List.nil_append, rL_law_686, rL_law_687, hl1, sh_69, nI_add, j1, j2, j3, j4, j5, am_ci, am_cr, am_cn0, am_s0, am_s1, am_s1r, am_s2, am_s2r, am_s3r, Nat.reduceAdd, Nat.reduceLeDiff]
  refine k _ (fun n2 I2 L2 R2 H2 => ?_)
  simp only [am_lv_of, Option.toList_some, List.cons_append, List.nil_append, rL_law_690, ↓reduceIte, rL_law_1152, rL_law_1155, nI_add, j1, j2, j3, j4, j5, am_ci, am_cr, am_cn0, am_s0, am_s1, am_s1r, am_s2, am_s2r, am_s3r, Nat.reduceAdd, Nat.reduceLeDiff]
  exact ih n2 I2 L2 R2 H2
theorem lw_half {i n : Nat} {I : Nat → Nat → Int32} {L : Nat → Nat → Int64} {R : Nat → Nat → Option Nat} (hX : X.1 ≤ 3072) (hi : i + 6 ≤ X.1) (H : REL (n, I, L, R)) (ih : ∀ n2 I2 L2 R2, REL (n2, I2, L2, R2) → am_E X (e + 33) mL_law 18 (lwL (i + 6)) [] (n2, I2, L2, R2) lwQ) : am_E X (e + 33) mL_law 695 (lwL i) [] (n, I, L, R) lwQ := by
  have hN : 116 ≤ n := by obtain ⟨σ, H⟩ := H; exact H.1.N
  have h0n : 0 < n := by omega
  have j1 : i + 1 < X.1 := by omega
  have j2 : i + 2 < X.1 := by omega
  have j3 : i + 3 < X.1 := by omega
  have j4 : i + 4 < X.1 := by omega
  have j5 : i + 5 < X.1 := by omega
  unfold lwL
  by_cases hb : X.2 (i + 1) = 0
  · have hb2 : (X.2 (i + 1) = 0) = True := eq_true hb
    simp only [am_lv_of, rL_law_695, rL_law_696, rL_law_697, rL_law_698, rL_law_699, rL_law_700 hX, rL_law_701, rL_law_704, rL_law_705, rL_law_708, rL_law_709, h0n, sh_0, nI_add, j1, j2, j3, j4, j5, am_ci, am_cr, am_cn0, am_s0, am_s1, am_s1r, am_s2, am_s2r, am_s3r, Nat.reduceAdd, Nat.reduceLeDiff, hb2, ↓reduceIte]
    refine lw_two (s_half (d := e + 2) H) rfl (by decide) (fun x n1 I1 L1 R1 hn1 k => ?_)
    have hl1 : 69 < n1 := Nat.lt_of_lt_of_le (Nat.lt_of_lt_of_le (by decide) hN) hn1
    simp only [am_lv_of, Option.toList_some, List.cons_append, List.nil_append, rL_law_712, rL_law_713, rL_law_714, rL_law_715, rL_law_716, rL_law_717 hX, rL_law_718, rL_law_721, rL_law_722, rL_law_725, rL_law_726, hl1, sh_69, nI_add, j1, j2, j3, j4, j5, am_ci, am_cr, am_cn0, am_s0, am_s1, am_s1r, am_s2, am_s2r, am_s3r, Nat.reduceAdd, Nat.reduceLeDiff, hb2, ↓reduceIte]
    refine k _ (fun n2 I2 L2 R2 H2 => ?_)
    simp only [am_lv_of, Option.toList_some, List.cons_append, List.nil_append, rL_law_729, ↓reduceIte, rL_law_1152, rL_law_1155, nI_add, j1, j2, j3, j4, j5, am_ci, am_cr, am_cn0, am_s0, am_s1, am_s1r, am_s2, am_s2r, am_s3r, Nat.reduceAdd, Nat.reduceLeDiff]
    exact ih n2 I2 L2 R2 H2
  · have hb2 : (X.2 (i + 1) = 0) = False := eq_false hb
    simp only [am_lv_of, rL_law_695, rL_law_696, rL_law_697, rL_law_698, rL_law_699, rL_law_700 hX, rL_law_701, rL_law_704, rL_law_705, rL_law_708, rL_law_709, h0n, sh_0, nI_add, j1, j2, j3, j4, j5, am_ci, am_cr, am_cn0, am_s0, am_s1, am_s1r, am_s2, am_s2r, am_s3r, Nat.reduceAdd, Nat.reduceLeDiff, hb2, ↓reduceIte]
    refine lw_two (s_half (d := e + 2) H) rfl (by decide) (fun x n1 I1 L1 R1 hn1 k => ?_)
    have hl1 : 69 < n1 := Nat.lt_of_lt_of_le (Nat.lt_of_lt_of_le (by decide) hN) hn1
    simp only [am_lv_of, Option.toList_some, List.cons_append, List.nil_append, rL_law_712, rL_law_713, rL_law_714, rL_law_715, rL_law_716, rL_law_717 hX, rL_law_718, rL_law_721, rL_law_722, rL_law_725, rL_law_726, hl1, sh_69, nI_add, j1, j2, j3, j4, j5, am_ci, am_cr, am_cn0, am_s0, am_s1, am_s1r, am_s2, am_s2r, am_s3r, Nat.reduceAdd, Nat.reduceLeDiff, hb2, ↓reduceIte]
    refine k _ (fun n2 I2 L2 R2 H2 => ?_)
    simp only [am_lv_of, Option.toList_some, List.cons_append, List.nil_append, rL_law_729, ↓reduceIte, rL_law_1152, rL_law_1155, nI_add, j1, j2, j3, j4, j5, am_ci, am_cr, am_cn0, am_s0, am_s1, am_s1r, am_s2, am_s2r, am_s3r, Nat.reduceAdd, Nat.reduceLeDiff]
    exact ih n2 I2 L2 R2 H2
theorem lw_jury {i n : Nat} {I : Nat → Nat → Int32} {L : Nat → Nat → Int64} {R : Nat → Nat → Option Nat} (hX : X.1 ≤ 3072) (hi : i + 6 ≤ X.1) (H : REL (n, I, L, R)) (ih : ∀ n2 I2 L2 R2, REL (n2, I2, L2, R2) → am_E X (e + 33) mL_law 18 (lwL (i + 6)) [] (n2, I2, L2, R2) lwQ) : am_E X (e + 33) mL_law 734 (lwL i) [] (n, I, L, R) lwQ := by
  have hN : 116 ≤ n := by obtain ⟨σ, H⟩ := H; exact H.1.N
  have h0n : 0 < n := by omega
  have j1 : i + 1 < X.1 := by omega
  have j2 : i + 2 < X.1 := by omega
  have j3 : i + 3 < X.1 := by omega
  have j4 : i + 4 < X.1 := by omega
  have j5 : i + 5 < X.1 := by omega
  unfold lwL
  by_cases hb : X.2 (i + 2) = 0
  · have hb2 : (X.2 (i + 2) = 0) = True := eq_true hb
    simp only [am_lv_of, rL_law_734, rL_law_735, rL_law_736, rL_law_737, rL_law_738, rL_law_739 hX, rL_law_740, rL_law_741, rL_law_742, rL_law_743, rL_law_744 hX, rL_law_745, rL_law_748, rL_law_749, rL_law_752, rL_law_753, h0n, sh_0, nI_add, j1, j2, j3, j4, j5, am_ci, am_cr, am_cn0, am_s0, am_s1, am_s1r, am_s2, am_s2r, am_s3r, Nat.reduceAdd, Nat.reduceLeDiff, hb2, ↓reduceIte]
    refine lw_two (s_jury (d := e + 2) H) rfl (by decide) (fun x n1 I1 L1 R1 hn1 k => ?_)
    have hl1 : 69 < n1 := Nat.lt_of_lt_of_le (Nat.lt_of_lt_of_le (by decide) hN) hn1
    simp only [am_lv_of, Option.toList_some, List.cons_append, List.nil_append, rL_law_756, rL_law_757, rL_law_758, rL_law_759, rL_law_760, rL_law_761 hX, rL_law_762, rL_law_763, rL_law_764, rL_law_765, rL_law_766 hX, rL_law_767, rL_law_770, rL_law_771, rL_law_774, rL_law_775, hl1, sh_69, nI_add, j1, j2, j3, j4, j5, am_ci, am_cr, am_cn0, am_s0, am_s1, am_s1r, am_s2, am_s2r, am_s3r, Nat.reduceAdd, Nat.reduceLeDiff, hb2, ↓reduceIte]
    refine k _ (fun n2 I2 L2 R2 H2 => ?_)
    simp only [am_lv_of, Option.toList_some, List.cons_append, List.nil_append, rL_law_778, ↓reduceIte, rL_law_1152, rL_law_1155, nI_add, j1, j2, j3, j4, j5, am_ci, am_cr, am_cn0, am_s0, am_s1, am_s1r, am_s2, am_s2r, am_s3r, Nat.reduceAdd, Nat.reduceLeDiff]
    exact ih n2 I2 L2 R2 H2
  · have hb2 : (X.2 (i + 2) = 0) = False := eq_false hb
    simp only [am_lv_of, rL_law_734, rL_law_735, rL_law_736, rL_law_737, rL_law_738, rL_law_739 hX, rL_law_740, rL_law_741, rL_law_742, rL_law_743, rL_law_744 hX, rL_law_745, rL_law_748, rL_law_749, rL_law_752, rL_law_753, h0n, sh_0, nI_add, j1, j2, j3, j4, j5, am_ci, am_cr, am_cn0, am_s0, am_s1, am_s1r, am_s2, am_s2r, am_s3r, Nat.reduceAdd, Nat.reduceLeDiff, hb2, ↓reduceIte]
    refine lw_two (s_jury (d := e + 2) H) rfl (by decide) (fun x n1 I1 L1 R1 hn1 k => ?_)
    have hl1 : 69 < n1 := Nat.lt_of_lt_of_le (Nat.lt_of_lt_of_le (by decide) hN) hn1
    simp only [am_lv_of, Option.toList_some, List.cons_append, List.nil_append, rL_law_756, rL_law_757, rL_law_758, rL_law_759, rL_law_760, rL_law_761 hX, rL_law_762, rL_law_763, rL_law_764, rL_law_765, rL_law_766 hX, rL_law_767, rL_law_770, rL_law_771, rL_law_774, rL_law_775, hl1, sh_69, nI_add, j1, j2, j3, j4, j5, am_ci, am_cr, am_cn0, am_s0, am_s1, am_s1r, am_s2, am_s2r, am_s3r, Nat.reduceAdd, Nat.reduceLeDiff, hb2, ↓reduceIte]
    refine k _ (fun n2 I2 L2 R2 H2 => ?_)
    simp only [am_lv_of, Option.toList_some, List.cons_append, List.nil_append, rL_law_778, ↓reduceIte, rL_law_1152, rL_law_1155, nI_add, j1, j2, j3, j4, j5, am_ci, am_cr, am_cn0, am_s0, am_s1, am_s1r, am_s2, am_s2r, am_s3r, Nat.reduceAdd, Nat.reduceLeDiff]
    exact ih n2 I2 L2 R2 H2
theorem lw_precedent {i n : Nat} {I : Nat → Nat → Int32} {L : Nat → Nat → Int64} {R : Nat → Nat → Option Nat} (hX : X.1 ≤ 3072) (hi : i + 6 ≤ X.1) (H : REL (n, I, L, R)) (ih : ∀ n2 I2 L2 R2, REL (n2, I2, L2, R2) → am_E X (e + 33) mL_law 18 (lwL (i + 6)) [] (n2, I2, L2, R2) lwQ) : am_E X (e + 33) mL_law 783 (lwL i) [] (n, I, L, R) lwQ := by
  have hN : 116 ≤ n := by obtain ⟨σ, H⟩ := H; exact H.1.N
  have h0n : 0 < n := by omega
  have j1 : i + 1 < X.1 := by omega
  have j2 : i + 2 < X.1 := by omega
  have j3 : i + 3 < X.1 := by omega
  have j4 : i + 4 < X.1 := by omega
  have j5 : i + 5 < X.1 := by omega
  unfold lwL
  simp only [am_lv_of, rL_law_783, rL_law_784, rL_law_785, rL_law_786, rL_law_787, rL_law_788 hX, rL_law_789, rL_law_790, rL_law_791, rL_law_792, rL_law_793 hX, rL_law_794, h0n, sh_0, nI_add, j1, j2, j3, j4, j5, am_ci, am_cr, am_cn0, am_s0, am_s1, am_s1r, am_s2, am_s2r, am_s3r, Nat.reduceAdd, Nat.reduceLeDiff]
  refine lw_two (s_precedent (d := e + 2) H) rfl (by decide) (fun x n1 I1 L1 R1 hn1 k => ?_)
  have hl1 : 69 < n1 := Nat.lt_of_lt_of_le (Nat.lt_of_lt_of_le (by decide) hN) hn1
  simp only [am_lv_of, Option.toList_some, List.cons_append, List.nil_append, rL_law_797, rL_law_798, rL_law_799, rL_law_800, rL_law_801, rL_law_802 hX, rL_law_803, rL_law_804, rL_law_805, rL_law_806, rL_law_807 hX, rL_law_808, hl1, sh_69, nI_add, j1, j2, j3, j4, j5, am_ci, am_cr, am_cn0, am_s0, am_s1, am_s1r, am_s2, am_s2r, am_s3r, Nat.reduceAdd, Nat.reduceLeDiff]
  refine k _ (fun n2 I2 L2 R2 H2 => ?_)
  simp only [am_lv_of, Option.toList_some, List.cons_append, List.nil_append, rL_law_811, ↓reduceIte, rL_law_1152, rL_law_1155, nI_add, j1, j2, j3, j4, j5, am_ci, am_cr, am_cn0, am_s0, am_s1, am_s1r, am_s2, am_s2r, am_s3r, Nat.reduceAdd, Nat.reduceLeDiff]
  exact ih n2 I2 L2 R2 H2
theorem lw_nearest {i n : Nat} {I : Nat → Nat → Int32} {L : Nat → Nat → Int64} {R : Nat → Nat → Option Nat} (hX : X.1 ≤ 3072) (hi : i + 6 ≤ X.1) (H : REL (n, I, L, R)) (ih : ∀ n2 I2 L2 R2, REL (n2, I2, L2, R2) → am_E X (e + 33) mL_law 18 (lwL (i + 6)) [] (n2, I2, L2, R2) lwQ) : am_E X (e + 33) mL_law 816 (lwL i) [] (n, I, L, R) lwQ := by
  have hN : 116 ≤ n := by obtain ⟨σ, H⟩ := H; exact H.1.N
  have h0n : 0 < n := by omega
  have j1 : i + 1 < X.1 := by omega
  have j2 : i + 2 < X.1 := by omega
  have j3 : i + 3 < X.1 := by omega
  have j4 : i + 4 < X.1 := by omega
  have j5 : i + 5 < X.1 := by omega
  unfold lwL
  simp only [am_lv_of, rL_law_816, rL_law_817, rL_law_818, rL_law_819, rL_law_820, rL_law_821 hX, rL_law_822, h0n, sh_0, nI_add, j1, j2, j3, j4, j5, am_ci, am_cr, am_cn0, am_s0, am_s1, am_s1r, am_s2, am_s2r, am_s3r, Nat.reduceAdd, Nat.reduceLeDiff]
  refine lw_two (s_nearest (d := e + 2) H) rfl (by decide) (fun x n1 I1 L1 R1 hn1 k => ?_)
  have hl1 : 69 < n1 := Nat.lt_of_lt_of_le (Nat.lt_of_lt_of_le (by decide) hN) hn1
  simp only [am_lv_of, Option.toList_some, List.cons_append, List.nil_append, rL_law_825, rL_law_826, rL_law_827, rL_law_828, rL_law_829, rL_law_830 hX, rL_law_831, hl1, sh_69, nI_add, j1, j2, j3, j4, j5, am_ci, am_cr, am_cn0, am_s0, am_s1, am_s1r, am_s2, am_s2r, am_s3r, Nat.reduceAdd, Nat.reduceLeDiff]
  refine k _ (fun n2 I2 L2 R2 H2 => ?_)
  simp only [am_lv_of, Option.toList_some, List.cons_append, List.nil_append, rL_law_834, ↓reduceIte, rL_law_1152, rL_law_1155, nI_add, j1, j2, j3, j4, j5, am_ci, am_cr, am_cn0, am_s0, am_s1, am_s1r, am_s2, am_s2r, am_s3r, Nat.reduceAdd, Nat.reduceLeDiff]
  exact ih n2 I2 L2 R2 H2
theorem lw_clashes {i n : Nat} {I : Nat → Nat → Int32} {L : Nat → Nat → Int64} {R : Nat → Nat → Option Nat} (hX : X.1 ≤ 3072) (hi : i + 6 ≤ X.1) (H : REL (n, I, L, R)) (ih : ∀ n2 I2 L2 R2, REL (n2, I2, L2, R2) → am_E X (e + 33) mL_law 18 (lwL (i + 6)) [] (n2, I2, L2, R2) lwQ) : am_E X (e + 33) mL_law 839 (lwL i) [] (n, I, L, R) lwQ := by
  have hN : 116 ≤ n := by obtain ⟨σ, H⟩ := H; exact H.1.N
  have h0n : 0 < n := by omega
  have j1 : i + 1 < X.1 := by omega
  have j2 : i + 2 < X.1 := by omega
  have j3 : i + 3 < X.1 := by omega
  have j4 : i + 4 < X.1 := by omega
  have j5 : i + 5 < X.1 := by omega
  unfold lwL
  simp only [am_lv_of, rL_law_839, rL_law_840, h0n, sh_0, nI_add, j1, j2, j3, j4, j5, am_ci, am_cr, am_cn0, am_s0, am_s1, am_s1r, am_s2, am_s2r, am_s3r, Nat.reduceAdd, Nat.reduceLeDiff]
  refine lw_two (s_clashes (d := e + 2) H) rfl (by decide) (fun x n1 I1 L1 R1 hn1 k => ?_)
  have hl1 : 69 < n1 := Nat.lt_of_lt_of_le (Nat.lt_of_lt_of_le (by decide) hN) hn1
  simp only [am_lv_of, Option.toList_some, List.cons_append, List.nil_append, rL_law_843, rL_law_844, hl1, sh_69, nI_add, j1, j2, j3, j4, j5, am_ci, am_cr, am_cn0, am_s0, am_s1, am_s1r, am_s2, am_s2r, am_s3r, Nat.reduceAdd, Nat.reduceLeDiff]
  refine k _ (fun n2 I2 L2 R2 H2 => ?_)
  simp only [am_lv_of, Option.toList_some, List.cons_append, List.nil_append, rL_law_847, ↓reduceIte, rL_law_1152, rL_law_1155, nI_add, j1, j2, j3, j4, j5, am_ci, am_cr, am_cn0, am_s0, am_s1, am_s1r, am_s2, am_s2r, am_s3r, Nat.reduceAdd, Nat.reduceLeDiff]
  exact ih n2 I2 L2 R2 H2
theorem lw_paint {i n : Nat} {I : Nat → Nat → Int32} {L : Nat → Nat → Int64} {R : Nat → Nat → Option Nat} (hX : X.1 ≤ 3072) (hi : i + 6 ≤ X.1) (H : REL (n, I, L, R)) (ih : ∀ n2 I2 L2 R2, REL (n2, I2, L2, R2) → am_E X (e + 33) mL_law 18 (lwL (i + 6)) [] (n2, I2, L2, R2) lwQ) : am_E X (e + 33) mL_law 852 (lwL i) [] (n, I, L, R) lwQ := by
  have hN : 116 ≤ n := by obtain ⟨σ, H⟩ := H; exact H.1.N
  have h0n : 0 < n := by omega
  have j1 : i + 1 < X.1 := by omega
  have j2 : i + 2 < X.1 := by omega
  have j3 : i + 3 < X.1 := by omega
  have j4 : i + 4 < X.1 := by omega
  have j5 : i + 5 < X.1 := by omega
  unfold lwL
  simp only [am_lv_of, rL_law_852, rL_law_853, rL_law_854, rL_law_855, rL_law_856, rL_law_857 hX, rL_law_858, h0n, sh_0, nI_add, j1, j2, j3, j4, j5, am_ci, am_cr, am_cn0, am_s0, am_s1, am_s1r, am_s2, am_s2r, am_s3r, Nat.reduceAdd, Nat.reduceLeDiff]
  refine lw_two (s_paint (d := e + 2) H) rfl (by decide) (fun x n1 I1 L1 R1 hn1 k => ?_)
  have hl1 : 69 < n1 := Nat.lt_of_lt_of_le (Nat.lt_of_lt_of_le (by decide) hN) hn1
  simp only [am_lv_of, Option.toList_some, List.cons_append, List.nil_append, rL_law_861, rL_law_862, rL_law_863, rL_law_864, rL_law_865, rL_law_866 hX, rL_law_867, hl1, sh_69, nI_add, j1, j2, j3, j4, j5, am_ci, am_cr, am_cn0, am_s0, am_s1, am_s1r, am_s2, am_s2r, am_s3r, Nat.reduceAdd, Nat.reduceLeDiff]
  refine k _ (fun n2 I2 L2 R2 H2 => ?_)
  simp only [am_lv_of, Option.toList_some, List.cons_append, List.nil_append, rL_law_870, ↓reduceIte, rL_law_1152, rL_law_1155, nI_add, j1, j2, j3, j4, j5, am_ci, am_cr, am_cn0, am_s0, am_s1, am_s1r, am_s2, am_s2r, am_s3r, Nat.reduceAdd, Nat.reduceLeDiff]
  exact ih n2 I2 L2 R2 H2
theorem lw_storms {i n : Nat} {I : Nat → Nat → Int32} {L : Nat → Nat → Int64} {R : Nat → Nat → Option Nat} (hX : X.1 ≤ 3072) (hi : i + 6 ≤ X.1) (H : REL (n, I, L, R)) (ih : ∀ n2 I2 L2 R2, REL (n2, I2, L2, R2) → am_E X (e + 33) mL_law 18 (lwL (i + 6)) [] (n2, I2, L2, R2) lwQ) : am_E X (e + 33) mL_law 875 (lwL i) [] (n, I, L, R) lwQ := by
  have hN : 116 ≤ n := by obtain ⟨σ, H⟩ := H; exact H.1.N
  have h0n : 0 < n := by omega
  have j1 : i + 1 < X.1 := by omega
  have j2 : i + 2 < X.1 := by omega
  have j3 : i + 3 < X.1 := by omega
  have j4 : i + 4 < X.1 := by omega
  have j5 : i + 5 < X.1 := by omega
  unfold lwL
  simp only [am_lv_of, rL_law_875, rL_law_876, rL_law_877, rL_law_878, rL_law_879, rL_law_880 hX, rL_law_881, rL_law_882, rL_law_883, rL_law_884, rL_law_885 hX, rL_law_886, rL_law_887, rL_law_888, rL_law_889, rL_law_890 hX, rL_law_891, h0n, sh_0, nI_add, j1, j2, j3, j4, j5, am_ci, am_cr, am_cn0, am_s0, am_s1, am_s1r, am_s2, am_s2r, am_s3r, Nat.reduceAdd, Nat.reduceLeDiff]
  refine lw_two (s_storms (d := e + 2) H) rfl (by decide) (fun x n1 I1 L1 R1 hn1 k => ?_)
  have hl1 : 69 < n1 := Nat.lt_of_lt_of_le (Nat.lt_of_lt_of_le (by decide) hN) hn1
  simp only [am_lv_of, Option.toList_some, List.cons_append, List.nil_append, rL_law_894, rL_law_895, rL_law_896, rL_law_897, rL_law_898, rL_law_899 hX, rL_law_900, rL_law_901, rL_law_902, rL_law_903, rL_law_904 hX, rL_law_905, rL_law_906, rL_law_907, rL_law_908, rL_law_909 hX, rL_law_910, hl1, sh_69, nI_add, j1, j2, j3, j4, j5, am_ci, am_cr, am_cn0, am_s0, am_s1, am_s1r, am_s2, am_s2r, am_s3r, Nat.reduceAdd, Nat.reduceLeDiff]
  refine k _ (fun n2 I2 L2 R2 H2 => ?_)
  simp only [am_lv_of, Option.toList_some, List.cons_append, List.nil_append, rL_law_913, ↓reduceIte, rL_law_1152, rL_law_1155, nI_add, j1, j2, j3, j4, j5, am_ci, am_cr, am_cn0, am_s0, am_s1, am_s1r, am_s2, am_s2r, am_s3r, Nat.reduceAdd, Nat.reduceLeDiff]
  exact ih n2 I2 L2 R2 H2
theorem lw_tell {i n : Nat} {I : Nat → Nat → Int32} {L : Nat → Nat → Int64} {R : Nat → Nat → Option Nat} (hX : X.1 ≤ 3072) (hi : i + 6 ≤ X.1) (H : REL (n, I, L, R)) (ih : ∀ n2 I2 L2 R2, REL (n2, I2, L2, R2) → am_E X (e + 33) mL_law 18 (lwL (i + 6)) [] (n2, I2, L2, R2) lwQ) : am_E X (e + 33) mL_law 918 (lwL i) [] (n, I, L, R) lwQ := by
  have hN : 116 ≤ n := by obtain ⟨σ, H⟩ := H; exact H.1.N
  have h0n : 0 < n := by omega
  have j1 : i + 1 < X.1 := by omega
  have j2 : i + 2 < X.1 := by omega
  have j3 : i + 3 < X.1 := by omega
  have j4 : i + 4 < X.1 := by omega
  have j5 : i + 5 < X.1 := by omega
  unfold lwL
  simp only [am_lv_of, rL_law_918, rL_law_919, rL_law_920, rL_law_921, rL_law_922, rL_law_923 hX, rL_law_924, rL_law_925, rL_law_926, rL_law_927, rL_law_928 hX, rL_law_929, rL_law_930, rL_law_931, rL_law_932, rL_law_933 hX, rL_law_934, h0n, sh_0, nI_add, j1, j2, j3, j4, j5, am_ci, am_cr, am_cn0, am_s0, am_s1, am_s1r, am_s2, am_s2r, am_s3r, Nat.reduceAdd, Nat.reduceLeDiff]
  refine lw_two (s_tell (d := e + 2) H) rfl (by decide) (fun x n1 I1 L1 R1 hn1 k => ?_)
  have hl1 : 69 < n1 := Nat.lt_of_lt_of_le (Nat.lt_of_lt_of_le (by decide) hN) hn1
  simp only [am_lv_of, Option.toList_some, List.cons_append, List.nil_append, rL_law_937, rL_law_938, rL_law_939, rL_law_940, rL_law_941, rL_law_942 hX, rL_law_943, rL_law_944, rL_law_945, rL_law_946, rL_law_947 hX, rL_law_948, rL_law_949, rL_law_950, rL_law_951, rL_law_952 hX, rL_law_953, hl1, sh_69, nI_add, j1, j2, j3, j4, j5, am_ci, am_cr, am_cn0, am_s0, am_s1, am_s1r, am_s2, am_s2r, am_s3r, Nat.reduceAdd, Nat.reduceLeDiff]
  refine k _ (fun n2 I2 L2 R2 H2 => ?_)
  simp only [am_lv_of, Option.toList_some, List.cons_append, List.nil_append, rL_law_956, ↓reduceIte, rL_law_1152, rL_law_1155, nI_add, j1, j2, j3, j4, j5, am_ci, am_cr, am_cn0, am_s0, am_s1, am_s1r, am_s2, am_s2r, am_s3r, Nat.reduceAdd, Nat.reduceLeDiff]
  exact ih n2 I2 L2 R2 H2
theorem lw_forget {i n : Nat} {I : Nat → Nat → Int32} {L : Nat → Nat → Int64} {R : Nat → Nat → Option Nat} (hX : X.1 ≤ 3072) (hi : i + 6 ≤ X.1) (H : REL (n, I, L, R)) (ih : ∀ n2 I2 L2 R2, REL (n2, I2, L2, R2) → am_E X (e + 33) mL_law 18 (lwL (i + 6)) [] (n2, I2, L2, R2) lwQ) : am_E X (e + 33) mL_law 961 (lwL i) [] (n, I, L, R) lwQ := by
  have hN : 116 ≤ n := by obtain ⟨σ, H⟩ := H; exact H.1.N
  have h0n : 0 < n := by omega
  have j1 : i + 1 < X.1 := by omega
  have j2 : i + 2 < X.1 := by omega
  have j3 : i + 3 < X.1 := by omega
  have j4 : i + 4 < X.1 := by omega
  have j5 : i + 5 < X.1 := by omega
  unfold lwL
  simp only [am_lv_of, rL_law_961, rL_law_962, h0n, sh_0, nI_add, j1, j2, j3, j4, j5, am_ci, am_cr, am_cn0, am_s0, am_s1, am_s1r, am_s2, am_s2r, am_s3r, Nat.reduceAdd, Nat.reduceLeDiff]
  refine lw_two (s_forget (d := e + 2) H) rfl (by decide) (fun x n1 I1 L1 R1 hn1 k => ?_)
  have hl1 : 69 < n1 := Nat.lt_of_lt_of_le (Nat.lt_of_lt_of_le (by decide) hN) hn1
  simp only [am_lv_of, Option.toList_some, List.cons_append, List.nil_append, rL_law_965, rL_law_966, hl1, sh_69, nI_add, j1, j2, j3, j4, j5, am_ci, am_cr, am_cn0, am_s0, am_s1, am_s1r, am_s2, am_s2r, am_s3r, Nat.reduceAdd, Nat.reduceLeDiff]
  refine k _ (fun n2 I2 L2 R2 H2 => ?_)
  simp only [am_lv_of, Option.toList_some, List.cons_append, List.nil_append, rL_law_969, ↓reduceIte, rL_law_1152, rL_law_1155, nI_add, j1, j2, j3, j4, j5, am_ci, am_cr, am_cn0, am_s0, am_s1, am_s1r, am_s2, am_s2r, am_s3r, Nat.reduceAdd, Nat.reduceLeDiff]
  exact ih n2 I2 L2 R2 H2
theorem lw_cloth {i n : Nat} {I : Nat → Nat → Int32} {L : Nat → Nat → Int64} {R : Nat → Nat → Option Nat} (hX : X.1 ≤ 3072) (hi : i + 6 ≤ X.1) (H : REL (n, I, L, R)) (ih : ∀ n2 I2 L2 R2, REL (n2, I2, L2, R2) → am_E X (e + 33) mL_law 18 (lwL (i + 6)) [] (n2, I2, L2, R2) lwQ) : am_E X (e + 33) mL_law 974 (lwL i) [] (n, I, L, R) lwQ := by
  have hN : 116 ≤ n := by obtain ⟨σ, H⟩ := H; exact H.1.N
  have h0n : 0 < n := by omega
  have j1 : i + 1 < X.1 := by omega
  have j2 : i + 2 < X.1 := by omega
  have j3 : i + 3 < X.1 := by omega
  have j4 : i + 4 < X.1 := by omega
  have j5 : i + 5 < X.1 := by omega
  unfold lwL
  simp only [am_lv_of, rL_law_974, rL_law_975, rL_law_976, rL_law_977, rL_law_978, rL_law_979 hX, rL_law_980, rL_law_981, rL_law_982, rL_law_983, rL_law_984 hX, rL_law_985, h0n, sh_0, nI_add, j1, j2, j3, j4, j5, am_ci, am_cr, am_cn0, am_s0, am_s1, am_s1r, am_s2, am_s2r, am_s3r, Nat.reduceAdd, Nat.reduceLeDiff]
  refine lw_two (s_cloth (d := e + 2) H) rfl (by decide) (fun x n1 I1 L1 R1 hn1 k => ?_)
  have hl1 : 69 < n1 := Nat.lt_of_lt_of_le (Nat.lt_of_lt_of_le (by decide) hN) hn1
  simp only [am_lv_of, Option.toList_some, List.cons_append, List.nil_append, rL_law_988, rL_law_989, rL_law_990, rL_law_991, rL_law_992, rL_law_993 hX, rL_law_994, rL_law_995, rL_law_996, rL_law_997, rL_law_998 hX, rL_law_999, hl1, sh_69, nI_add, j1, j2, j3, j4, j5, am_ci, am_cr, am_cn0, am_s0, am_s1, am_s1r, am_s2, am_s2r, am_s3r, Nat.reduceAdd, Nat.reduceLeDiff]
  refine k _ (fun n2 I2 L2 R2 H2 => ?_)
  simp only [am_lv_of, Option.toList_some, List.cons_append, List.nil_append, rL_law_1002, ↓reduceIte, rL_law_1152, rL_law_1155, nI_add, j1, j2, j3, j4, j5, am_ci, am_cr, am_cn0, am_s0, am_s1, am_s1r, am_s2, am_s2r, am_s3r, Nat.reduceAdd, Nat.reduceLeDiff]
  exact ih n2 I2 L2 R2 H2
theorem lw_sure {i n : Nat} {I : Nat → Nat → Int32} {L : Nat → Nat → Int64} {R : Nat → Nat → Option Nat} (hX : X.1 ≤ 3072) (hi : i + 6 ≤ X.1) (H : REL (n, I, L, R)) (ih : ∀ n2 I2 L2 R2, REL (n2, I2, L2, R2) → am_E X (e + 33) mL_law 18 (lwL (i + 6)) [] (n2, I2, L2, R2) lwQ) : am_E X (e + 33) mL_law 1007 (lwL i) [] (n, I, L, R) lwQ := by
  have hN : 116 ≤ n := by obtain ⟨σ, H⟩ := H; exact H.1.N
  have h0n : 0 < n := by omega
  have j1 : i + 1 < X.1 := by omega
  have j2 : i + 2 < X.1 := by omega
  have j3 : i + 3 < X.1 := by omega
  have j4 : i + 4 < X.1 := by omega
  have j5 : i + 5 < X.1 := by omega
  unfold lwL
  simp only [am_lv_of, rL_law_1007, rL_law_1008, rL_law_1009, rL_law_1010, rL_law_1011, rL_law_1012 hX, rL_law_1013, rL_law_1014, rL_law_1015, rL_law_1016, rL_law_1017 hX, rL_law_1018, rL_law_1019, rL_law_1020, rL_law_1021, rL_law_1022 hX, rL_law_1023, h0n, sh_0, nI_add, j1, j2, j3, j4, j5, am_ci, am_cr, am_cn0, am_s0, am_s1, am_s1r, am_s2, am_s2r, am_s3r, Nat.reduceAdd, Nat.reduceLeDiff]
  refine lw_two (s_sure (d := e + 2) H) rfl (by decide) (fun x n1 I1 L1 R1 hn1 k => ?_)
  have hl1 : 69 < n1 := Nat.lt_of_lt_of_le (Nat.lt_of_lt_of_le (by decide) hN) hn1
  simp only [am_lv_of, Option.toList_some, List.cons_append, List.nil_append, rL_law_1026, rL_law_1027, rL_law_1028, rL_law_1029, rL_law_1030, rL_law_1031 hX, rL_law_1032, rL_law_1033, rL_law_1034, rL_law_1035, rL_law_1036 hX, rL_law_1037, rL_law_1038, rL_law_1039, rL_law_1040, rL_law_1041 hX, rL_law_1042, hl1, sh_69, nI_add, j1, j2, j3, j4, j5, am_ci, am_cr, am_cn0, am_s0, am_s1, am_s1r, am_s2, am_s2r, am_s3r, Nat.reduceAdd, Nat.reduceLeDiff]
  refine k _ (fun n2 I2 L2 R2 H2 => ?_)
  simp only [am_lv_of, Option.toList_some, List.cons_append, List.nil_append, rL_law_1045, ↓reduceIte, rL_law_1152, rL_law_1155, nI_add, j1, j2, j3, j4, j5, am_ci, am_cr, am_cn0, am_s0, am_s1, am_s1r, am_s2, am_s2r, am_s3r, Nat.reduceAdd, Nat.reduceLeDiff]
  exact ih n2 I2 L2 R2 H2
theorem lw_look {i n : Nat} {I : Nat → Nat → Int32} {L : Nat → Nat → Int64} {R : Nat → Nat → Option Nat} (hX : X.1 ≤ 3072) (hi : i + 6 ≤ X.1) (H : REL (n, I, L, R)) (ih : ∀ n2 I2 L2 R2, REL (n2, I2, L2, R2) → am_E X (e + 33) mL_law 18 (lwL (i + 6)) [] (n2, I2, L2, R2) lwQ) : am_E X (e + 33) mL_law 1050 (lwL i) [] (n, I, L, R) lwQ := by
  have hN : 116 ≤ n := by obtain ⟨σ, H⟩ := H; exact H.1.N
  have h0n : 0 < n := by omega
  have j1 : i + 1 < X.1 := by omega
  have j2 : i + 2 < X.1 := by omega
  have j3 : i + 3 < X.1 := by omega
  have j4 : i + 4 < X.1 := by omega
  have j5 : i + 5 < X.1 := by omega
  unfold lwL
  simp only [am_lv_of, rL_law_1050, rL_law_1051, rL_law_1052, rL_law_1053, rL_law_1054, rL_law_1055 hX, rL_law_1056, rL_law_1057, rL_law_1058, rL_law_1059, rL_law_1060 hX, rL_law_1061, h0n, sh_0, nI_add, j1, j2, j3, j4, j5, am_ci, am_cr, am_cn0, am_s0, am_s1, am_s1r, am_s2, am_s2r, am_s3r, Nat.reduceAdd, Nat.reduceLeDiff]
  refine lw_two (s_look (d := e + 2) H) rfl (by decide) (fun x n1 I1 L1 R1 hn1 k => ?_)
  have hl1 : 69 < n1 := Nat.lt_of_lt_of_le (Nat.lt_of_lt_of_le (by decide) hN) hn1
  simp only [am_lv_of, Option.toList_some, List.cons_append, List.nil_append, rL_law_1064, rL_law_1065, rL_law_1066, rL_law_1067, rL_law_1068, rL_law_1069 hX, rL_law_1070, rL_law_1071, rL_law_1072, rL_law_1073, rL_law_1074 hX, rL_law_1075, hl1, sh_69, nI_add, j1, j2, j3, j4, j5, am_ci, am_cr, am_cn0, am_s0, am_s1, am_s1r, am_s2, am_s2r, am_s3r, Nat.reduceAdd, Nat.reduceLeDiff]
  refine k _ (fun n2 I2 L2 R2 H2 => ?_)
  simp only [am_lv_of, Option.toList_some, List.cons_append, List.nil_append, rL_law_1078, ↓reduceIte, rL_law_1152, rL_law_1155, nI_add, j1, j2, j3, j4, j5, am_ci, am_cr, am_cn0, am_s0, am_s1, am_s1r, am_s2, am_s2r, am_s3r, Nat.reduceAdd, Nat.reduceLeDiff]
  exact ih n2 I2 L2 R2 H2
theorem lw_hold {i n : Nat} {I : Nat → Nat → Int32} {L : Nat → Nat → Int64} {R : Nat → Nat → Option Nat} (hX : X.1 ≤ 3072) (hi : i + 6 ≤ X.1) (H : REL (n, I, L, R)) (ih : ∀ n2 I2 L2 R2, REL (n2, I2, L2, R2) → am_E X (e + 33) mL_law 18 (lwL (i + 6)) [] (n2, I2, L2, R2) lwQ) : am_E X (e + 33) mL_law 1083 (lwL i) [] (n, I, L, R) lwQ := by
  have hN : 116 ≤ n := by obtain ⟨σ, H⟩ := H; exact H.1.N
  have h0n : 0 < n := by omega
  have j1 : i + 1 < X.1 := by omega
  have j2 : i + 2 < X.1 := by omega
  have j3 : i + 3 < X.1 := by omega
  have j4 : i + 4 < X.1 := by omega
  have j5 : i + 5 < X.1 := by omega
  unfold lwL
  simp only [am_lv_of, rL_law_1083, rL_law_1084, rL_law_1085, rL_law_1086, rL_law_1087, rL_law_1088 hX, rL_law_1089, h0n, sh_0, nI_add, j1, j2, j3, j4, j5, am_ci, am_cr, am_cn0, am_s0, am_s1, am_s1r, am_s2, am_s2r, am_s3r, Nat.reduceAdd, Nat.reduceLeDiff]
  refine lw_two (s_hold (d := e + 2) H) rfl (by decide) (fun x n1 I1 L1 R1 hn1 k => ?_)
  have hl1 : 69 < n1 := Nat.lt_of_lt_of_le (Nat.lt_of_lt_of_le (by decide) hN) hn1
  simp only [am_lv_of, Option.toList_some, List.cons_append, List.nil_append, rL_law_1092, rL_law_1093, rL_law_1094, rL_law_1095, rL_law_1096, rL_law_1097 hX, rL_law_1098, hl1, sh_69, nI_add, j1, j2, j3, j4, j5, am_ci, am_cr, am_cn0, am_s0, am_s1, am_s1r, am_s2, am_s2r, am_s3r, Nat.reduceAdd, Nat.reduceLeDiff]
  refine k _ (fun n2 I2 L2 R2 H2 => ?_)
  simp only [am_lv_of, Option.toList_some, List.cons_append, List.nil_append, rL_law_1101, ↓reduceIte, rL_law_1152, rL_law_1155, nI_add, j1, j2, j3, j4, j5, am_ci, am_cr, am_cn0, am_s0, am_s1, am_s1r, am_s2, am_s2r, am_s3r, Nat.reduceAdd, Nat.reduceLeDiff]
  exact ih n2 I2 L2 R2 H2
theorem lw_restore {i n : Nat} {I : Nat → Nat → Int32} {L : Nat → Nat → Int64} {R : Nat → Nat → Option Nat} (hX : X.1 ≤ 3072) (hi : i + 6 ≤ X.1) (H : REL (n, I, L, R)) (ih : ∀ n2 I2 L2 R2, REL (n2, I2, L2, R2) → am_E X (e + 33) mL_law 18 (lwL (i + 6)) [] (n2, I2, L2, R2) lwQ) : am_E X (e + 33) mL_law 1106 (lwL i) [] (n, I, L, R) lwQ := by
  have hN : 116 ≤ n := by obtain ⟨σ, H⟩ := H; exact H.1.N
  have h0n : 0 < n := by omega
  have j1 : i + 1 < X.1 := by omega
  have j2 : i + 2 < X.1 := by omega
  have j3 : i + 3 < X.1 := by omega
  have j4 : i + 4 < X.1 := by omega
  have j5 : i + 5 < X.1 := by omega
  unfold lwL
  simp only [am_lv_of, rL_law_1106, rL_law_1107, rL_law_1108, rL_law_1109, rL_law_1110, rL_law_1111 hX, rL_law_1112, h0n, sh_0, nI_add, j1, j2, j3, j4, j5, am_ci, am_cr, am_cn0, am_s0, am_s1, am_s1r, am_s2, am_s2r, am_s3r, Nat.reduceAdd, Nat.reduceLeDiff]
  refine lw_two (s_restore (d := e + 2) H) rfl (by decide) (fun x n1 I1 L1 R1 hn1 k => ?_)
  have hl1 : 69 < n1 := Nat.lt_of_lt_of_le (Nat.lt_of_lt_of_le (by decide) hN) hn1
  simp only [am_lv_of, Option.toList_some, List.cons_append, List.nil_append, rL_law_1115, rL_law_1116, rL_law_1117, rL_law_1118, rL_law_1119, rL_law_1120 hX, rL_law_1121, hl1, sh_69, nI_add, j1, j2, j3, j4, j5, am_ci, am_cr, am_cn0, am_s0, am_s1, am_s1r, am_s2, am_s2r, am_s3r, Nat.reduceAdd, Nat.reduceLeDiff]
  refine k _ (fun n2 I2 L2 R2 H2 => ?_)
  simp only [am_lv_of, Option.toList_some, List.cons_append, List.nil_append, rL_law_1124, ↓reduceIte, rL_law_1152, rL_law_1155, nI_add, j1, j2, j3, j4, j5, am_ci, am_cr, am_cn0, am_s0, am_s1, am_s1r, am_s2, am_s2r, am_s3r, Nat.reduceAdd, Nat.reduceLeDiff]
  exact ih n2 I2 L2 R2 H2
theorem lw_count {i n : Nat} {I : Nat → Nat → Int32} {L : Nat → Nat → Int64} {R : Nat → Nat → Option Nat} (hX : X.1 ≤ 3072) (hi : i + 6 ≤ X.1) (H : REL (n, I, L, R)) (ih : ∀ n2 I2 L2 R2, REL (n2, I2, L2, R2) → am_E X (e + 33) mL_law 18 (lwL (i + 6)) [] (n2, I2, L2, R2) lwQ) : am_E X (e + 33) mL_law 1129 (lwL i) [] (n, I, L, R) lwQ := by
  have hN : 116 ≤ n := by obtain ⟨σ, H⟩ := H; exact H.1.N
  have h0n : 0 < n := by omega
  have j1 : i + 1 < X.1 := by omega
  have j2 : i + 2 < X.1 := by omega
  have j3 : i + 3 < X.1 := by omega
  have j4 : i + 4 < X.1 := by omega
  have j5 : i + 5 < X.1 := by omega
  unfold lwL
  simp only [am_lv_of, rL_law_1129, rL_law_1130, rL_law_1131, rL_law_1132, rL_law_1133, rL_law_1134 hX, rL_law_1135, h0n, sh_0, nI_add, j1, j2, j3, j4, j5, am_ci, am_cr, am_cn0, am_s0, am_s1, am_s1r, am_s2, am_s2r, am_s3r, Nat.reduceAdd, Nat.reduceLeDiff]
  refine lw_two (s_count (d := e + 2) H) rfl (by decide) (fun x n1 I1 L1 R1 hn1 k => ?_)
  have hl1 : 69 < n1 := Nat.lt_of_lt_of_le (Nat.lt_of_lt_of_le (by decide) hN) hn1
  simp only [am_lv_of, Option.toList_some, List.cons_append, List.nil_append, rL_law_1138, rL_law_1139, rL_law_1140, rL_law_1141, rL_law_1142, rL_law_1143 hX, rL_law_1144, hl1, sh_69, nI_add, j1, j2, j3, j4, j5, am_ci, am_cr, am_cn0, am_s0, am_s1, am_s1r, am_s2, am_s2r, am_s3r, Nat.reduceAdd, Nat.reduceLeDiff]
  refine k _ (fun n2 I2 L2 R2 H2 => ?_)
  simp only [am_lv_of, Option.toList_some, List.cons_append, List.nil_append, rL_law_1147, ↓reduceIte, rL_law_1152, rL_law_1155, nI_add, j1, j2, j3, j4, j5, am_ci, am_cr, am_cn0, am_s0, am_s1, am_s1r, am_s2, am_s2r, am_s3r, Nat.reduceAdd, Nat.reduceLeDiff]
  exact ih n2 I2 L2 R2 H2
theorem lw_loop (hX : X.1 ≤ 3072) : ∀ (m i n : Nat) (I : Nat → Nat → Int32) (L : Nat → Nat → Int64) (R : Nat → Nat → Option Nat), X.1 < i + 6 * m + 6 → i ≤ X.1 → REL (n, I, L, R) → am_E X (e + 33) mL_law 18 (lwL i) [] (n, I, L, R) lwQ := by
  intro m
  induction m with
  | zero =>
    intro i n I L R h1 h2 H
    have c1 : nI X.1 - nI 6 < nI i := (lw_lt hX (by omega)).mpr (by omega)
    unfold lwL
    simp only [am_lv_of, rL_law_18, rL_law_19, rL_law_21, rL_law_23, rL_law_24, rL_law_20, rL_law_1158, rL_law_1159_1, c1, ↓reduceIte, am_ci, am_cr, am_cn0]
    rfl
  | succ m ih =>
    intro i n I L R h1 h2 H
    by_cases hc : X.1 < i + 6
    · have c1 : nI X.1 - nI 6 < nI i := (lw_lt hX (by omega)).mpr hc
      unfold lwL
      simp only [am_lv_of, rL_law_18, rL_law_19, rL_law_21, rL_law_23, rL_law_24, rL_law_20, rL_law_1158, rL_law_1159_1, c1, ↓reduceIte, am_ci, am_cr, am_cn0]
      rfl
    · have c1 : ¬ nI X.1 - nI 6 < nI i := fun z => hc ((lw_lt hX (by omega)).mp z)
      have hi : i + 6 ≤ X.1 := by omega
      have j0 : i < X.1 := by omega
      have ih' : ∀ n2 I2 L2 R2, REL (n2, I2, L2, R2) → am_E X (e + 33) mL_law 18 (lwL (i + 6)) [] (n2, I2, L2, R2) lwQ := fun n2 I2 L2 R2 H2 => ih (i + 6) n2 I2 L2 R2 (by omega) hi H2
      have ea : X.2 i &&& nI 63 = nI ((X.2 i).toBitVec.toNat % 64) := pk_and (X.2 i) 6 (by decide)
      have hq : (X.2 i).toBitVec.toNat % 64 < 64 := Nat.mod_lt _ (by omega)
      show am_E X (e + 33) mL_law 18 [some (.ref 2000000), some (.ref 0), some (.ref 69), some (.int (nI i))] [] (n, I, L, R) lwQ
      rw [rL_law_18]
      simp only [am_lv_of, rL_law_19, rL_law_21, rL_law_23, rL_law_24, rL_law_27, rL_law_28, rL_law_29 hX, rL_law_30, rL_law_32, rL_law_20, c1, ↓reduceIte, j0, ea, am_ci, am_cr, am_cn0]
      generalize (X.2 i).toBitVec.toNat % 64 = c at hq
      by_cases hd : 35 < c
      · have hx : (nI c).toInt < 0 ∨ 35 < (nI c).toInt := by rw [nI_toInt (by omega)]; omega
        rw [rL_law_33 hx]
        simp only [am_lv_of, rL_law_1152, rL_law_1155, nI_add, am_ci, am_cr, am_cn0]
        exact ih' n I L R H
      · have : c = 0 ∨ c = 1 ∨ c = 2 ∨ c = 3 ∨ c = 4 ∨ c = 5 ∨ c = 6 ∨ c = 7 ∨ c = 8 ∨ c = 9 ∨ c = 10 ∨ c = 11 ∨ c = 12 ∨ c = 13 ∨ c = 14 ∨ c = 15 ∨ c = 16 ∨ c = 17 ∨ c = 18 ∨ c = 19 ∨ c = 20 ∨ c = 21 ∨ c = 22 ∨ c = 23 ∨ c = 24 ∨ c = 25 ∨ c = 26 ∨ c = 27 ∨ c = 28 ∨ c = 29 ∨ c = 30 ∨ c = 31 ∨ c = 32 ∨ c = 33 ∨ c = 34 ∨ c = 35 := by omega
        rcases this with rfl | rfl | rfl | rfl | rfl | rfl | rfl | rfl | rfl | rfl | rfl | rfl | rfl | rfl | rfl | rfl | rfl | rfl | rfl | rfl | rfl | rfl | rfl | rfl | rfl | rfl | rfl | rfl | rfl | rfl | rfl | rfl | rfl | rfl | rfl | rfl
        · rw [rL_law_33_c0]
          exact lw_feed hX hi H ih'
        · rw [rL_law_33_c1]
          exact lw_back hX hi H ih'
        · rw [rL_law_33_c2]
          exact lw_read hX hi H ih'
        · rw [rL_law_33_c3]
          exact lw_place hX hi H ih'
        · rw [rL_law_33_c4]
          exact lw_puppet hX hi H ih'
        · rw [rL_law_33_c5]
          exact lw_string hX hi H ih'
        · rw [rL_law_33_c6]
          exact lw_court hX hi H ih'
        · rw [rL_law_33_c7]
          exact lw_may hX hi H ih'
        · rw [rL_law_33_c8]
          exact lw_pull hX hi H ih'
        · rw [rL_law_33_c9]
          exact lw_pass hX hi H ih'
        · rw [rL_law_33_c10]
          exact lw_open hX hi H ih'
        · rw [rL_law_33_c11]
          exact lw_undo hX hi H ih'
        · rw [rL_law_33_c12]
          exact lw_after hX hi H ih'
        · rw [rL_law_33_c13]
          exact lw_shortest hX hi H ih'
        · rw [rL_law_33_c14]
          exact lw_force hX hi H ih'
        · rw [rL_law_33_c15]
          exact lw_straight hX hi H ih'
        · rw [rL_law_33_c16]
          exact lw_reach hX hi H ih'
        · rw [rL_law_33_c17]
          exact lw_strong hX hi H ih'
        · rw [rL_law_33_c18]
          exact lw_free hX hi H ih'
        · rw [rL_law_33_c19]
          exact lw_worn hX hi H ih'
        · rw [rL_law_33_c20]
          exact lw_verdicts hX hi H ih'
        · rw [rL_law_33_c21]
          exact lw_half hX hi H ih'
        · rw [rL_law_33_c22]
          exact lw_jury hX hi H ih'
        · rw [rL_law_33_c23]
          exact lw_precedent hX hi H ih'
        · rw [rL_law_33_c24]
          exact lw_nearest hX hi H ih'
        · rw [rL_law_33_c25]
          exact lw_clashes hX hi H ih'
        · rw [rL_law_33_c26]
          exact lw_paint hX hi H ih'
        · rw [rL_law_33_c27]
          exact lw_storms hX hi H ih'
        · rw [rL_law_33_c28]
          exact lw_tell hX hi H ih'
        · rw [rL_law_33_c29]
          exact lw_forget hX hi H ih'
        · rw [rL_law_33_c30]
          exact lw_cloth hX hi H ih'
        · rw [rL_law_33_c31]
          exact lw_sure hX hi H ih'
        · rw [rL_law_33_c32]
          exact lw_look hX hi H ih'
        · rw [rL_law_33_c33]
          exact lw_hold hX hi H ih'
        · rw [rL_law_33_c34]
          exact lw_restore hX hi H ih'
        · rw [rL_law_33_c35]
          exact lw_count hX hi H ih'
end VC
