set_option maxRecDepth 100000 in
set_option maxHeartbeats 4000000 in
theorem t_X7_comeSmall_303 {X : hs_T} (C : hs_C X 1 RX7 cX7_comeSmall 10 2) {res : Int32 × hs_M} (hf : hs_FI X cX7_comeSmall res) (y0 : Int32) (S : hs_M) (h : f_X7_comeSmall_303 y0 S = some res) : hs_Z X 10 S [] [.int y0] 303 := by
  unfold f_X7_comeSmall_303 at h
  exact hs_ireti C hf h dX7_comeSmall_303
set_option maxRecDepth 100000 in
set_option maxHeartbeats 4000000 in
theorem t_X7_comeSmall_292 {X : hs_T} (C : hs_C X 1 RX7 cX7_comeSmall 10 2) {res : Int32 × hs_M} (hf : hs_FI X cX7_comeSmall res) (x8 : Int32) (x9 : Int32) (S : hs_M) (h : f_X7_comeSmall_292 x8 x9 S = some res) : hs_Z X 10 S [(8, .int x8), (9, .int x9)] [] 292 := by
  unfold f_X7_comeSmall_292 at h
  refine hs_iload C dX7_comeSmall_292 1 rfl ?_
  refine hs_if_eq (tgt := 302) C dX7_comeSmall_294 (by decide) h (fun h => ?_) (fun h => ?_)
  · skip
    refine hs_iconst (v := 0) C dX7_comeSmall_302 (by decide) ?_
    refine hs_sub [] rfl ?_
    exact t_X7_comeSmall_303 C hf  (0 : Int32) S h
  · skip
    refine hs_iload C dX7_comeSmall_297 0 rfl ?_
    refine hs_goto (tgt := 303) C dX7_comeSmall_299 (by decide) ?_
    refine hs_sub [] rfl ?_
    exact t_X7_comeSmall_303 C hf  x8 S h
set_option maxRecDepth 100000 in
set_option maxHeartbeats 4000000 in
theorem t_X7_comeSmall_290 {X : hs_T} (C : hs_C X 1 RX7 cX7_comeSmall 10 2) {res : Int32 × hs_M} (hf : hs_FI X cX7_comeSmall res) (x8 : Int32) (x9 : Int32) (y1 : Int32) (y2 : Int32) (y3 : Int32) (S : hs_M) (h : f_X7_comeSmall_290 x8 x9 y1 y2 y3 S = some res) : hs_Z X 10 S [(8, .int x8), (9, .int x9)] [.int y3, .int y2, .int y1, .ref (hs_q X 125)] 290 := by
  unfold f_X7_comeSmall_290 at h
  refine hs_iadd C dX7_comeSmall_290 ?_
  refine hs_ast (kd := 14) C (Or.inr rfl) rfl (show hs_K 125 = 14 by decide +kernel) h dX7_comeSmall_291 (fun S_1 h => ?_)
  exact t_X7_comeSmall_292 C hf  x8 x9 S_1 h
set_option maxRecDepth 100000 in
set_option maxHeartbeats 4000000 in
theorem t_X7_comeSmall_259 {X : hs_T} (C : hs_C X 1 RX7 cX7_comeSmall 10 2) {res : Int32 × hs_M} (hf : hs_FI X cX7_comeSmall res) (x1 : Int32) (x7 : Int32) (x8 : Int32) (x9 : Int32) (S : hs_M) (h : f_X7_comeSmall_259 x1 x7 x8 x9 S = some res) : hs_Z X 10 S [(0, .ref (hs_q X 100)), (1, .int x1), (7, .int x7), (8, .int x8), (9, .int x9)] [] 259 := by
  unfold f_X7_comeSmall_259 at h
  refine hs_iload C dX7_comeSmall_259 4 rfl ?_
  refine hs_if_eq (tgt := 292) C dX7_comeSmall_261 (by decide) h (fun h => ?_) (fun h => ?_)
  · skip
    refine hs_sub [3, 4] rfl ?_
    exact t_X7_comeSmall_292 C hf  x8 x9 S h
  · skip
    refine hs_aload_n C dX7_comeSmall_264 0 rfl rfl ?_
    refine hs_iload_n C dX7_comeSmall_265 1 rfl rfl ?_
    refine hs_iload C dX7_comeSmall_266 2 rfl ?_
    obtain ⟨S_1, hc_2, h⟩ := hs_b1_s h
    refine cs_X7_178 C (m_X7_keep x1 x7 S hc_2) (by decide) (Nat.le_of_ble_eq_true rfl) dX7_comeSmall_268 ?_
    refine hs_aload_n C dX7_comeSmall_271 0 rfl rfl ?_
    refine gf_X7_83 C dX7_comeSmall_272 ?_
    refine hs_bipush (v := 7) C dX7_comeSmall_275 (by decide) ?_
    refine hs_dup2 C dX7_comeSmall_277 rfl rfl ?_
    refine hs_ald (kd := 14) C (Or.inr rfl) rfl (show hs_K 125 = 14 by decide +kernel) h dX7_comeSmall_278 (fun h => ?_)
    refine hs_iload C dX7_comeSmall_279 3 rfl ?_
    refine hs_iconst (v := 2) C dX7_comeSmall_281 (by decide) ?_
    refine hs_icmp_ne (tgt := 289) C dX7_comeSmall_282 (by decide) h (fun h => ?_) (fun h => ?_)
    · skip
      refine hs_iconst (v := 0) C dX7_comeSmall_289 (by decide) ?_
      refine hs_sub [3, 4] rfl ?_
      exact t_X7_comeSmall_290 C hf  x8 x9 (7 : Int32) (S_1 125 (7 : Int32).toNatClampNeg) (0 : Int32) S_1 h
    · skip
      refine hs_iconst (v := 1) C dX7_comeSmall_285 (by decide) ?_
      refine hs_goto (tgt := 290) C dX7_comeSmall_286 (by decide) ?_
      refine hs_sub [3, 4] rfl ?_
      exact t_X7_comeSmall_290 C hf  x8 x9 (7 : Int32) (S_1 125 (7 : Int32).toNatClampNeg) (1 : Int32) S_1 h
set_option maxRecDepth 100000 in
set_option maxHeartbeats 4000000 in
theorem t_X7_comeSmall_225 {X : hs_T} (C : hs_C X 1 RX7 cX7_comeSmall 10 2) {res : Int32 × hs_M} (hf : hs_FI X cX7_comeSmall res) (x1 : Int32) (x2 : Int32) (x4 : Int32) (x5 : Int32) (x6 : Int32) (x7 : Int32) (x8 : Int32) (x9 : Int32) (S : hs_M) (h : f_X7_comeSmall_225 x1 x2 x4 x5 x6 x7 x8 x9 S = some res) : hs_Z X 10 S [(0, .ref (hs_q X 100)), (1, .int x1), (2, .int x2), (4, .int x4), (5, .int x5), (6, .int x6), (7, .int x7), (8, .int x8), (9, .int x9)] [] 225 := by
  unfold f_X7_comeSmall_225 at h
  refine hs_iload C dX7_comeSmall_225 8 rfl ?_
  refine hs_if_ne (tgt := 259) C dX7_comeSmall_227 (by decide) h (fun h => ?_) (fun h => ?_)
  · skip
    refine hs_sub [0, 1, 6, 7, 8] rfl ?_
    exact t_X7_comeSmall_259 C hf  x1 x7 x8 x9 S h
  · skip
    refine hs_aload_n C dX7_comeSmall_230 0 rfl rfl ?_
    refine hs_aload_n C dX7_comeSmall_231 0 rfl rfl ?_
    refine gf_X7_74 C dX7_comeSmall_232 ?_
    refine hs_iload_n C dX7_comeSmall_235 1 rfl rfl ?_
    refine hs_ald (kd := 14) C (Or.inr rfl) rfl (show hs_K 122 = 14 by decide +kernel) h dX7_comeSmall_236 (fun h => ?_)
    refine hs_iload_n C dX7_comeSmall_237 2 rfl rfl ?_
    refine hs_iload C dX7_comeSmall_238 3 rfl ?_
    obtain ⟨r_3, S_1, hc_2, h⟩ := hs_b2_s h
    refine cs_X7_170 C (m_X7_near (S 122 x1.toNatClampNeg) x2 x4 S hc_2) (by decide) (Nat.le_of_ble_eq_true rfl) dX7_comeSmall_240 ?_
    refine hs_istore (lv' := [(7, .int r_3), (0, .ref (hs_q X 100)), (1, .int x1), (2, .int x2), (4, .int x4), (5, .int x5), (6, .int x6), (8, .int x8), (9, .int x9)]) C dX7_comeSmall_243 (by decide) rfl ?_
    refine hs_aload_n C dX7_comeSmall_245 1 rfl rfl ?_
    refine hs_iload_n C dX7_comeSmall_246 2 rfl rfl ?_
    refine hs_iload_n C dX7_comeSmall_247 3 rfl rfl ?_
    refine hs_iload C dX7_comeSmall_248 0 rfl ?_
    refine hs_iload C dX7_comeSmall_250 5 rfl ?_
    refine hs_iload C dX7_comeSmall_252 6 rfl ?_
    obtain ⟨r_6, S_4, hc_5, h⟩ := hs_b2_s h
    refine cs_X7_174 C (m_X7_fits x1 x2 r_3 x5 x6 S_1 hc_5) (by decide) (Nat.le_of_ble_eq_true rfl) dX7_comeSmall_254 ?_
    refine hs_istore (lv' := [(9, .int r_6), (7, .int r_3), (0, .ref (hs_q X 100)), (1, .int x1), (2, .int x2), (4, .int x4), (5, .int x5), (6, .int x6), (8, .int x8)]) C dX7_comeSmall_257 (by decide) rfl ?_
    refine hs_sub [2, 3, 1, 8, 0] rfl ?_
    exact t_X7_comeSmall_259 C hf  x1 r_3 x8 r_6 S_4 h
set_option maxRecDepth 100000 in
set_option maxHeartbeats 4000000 in
theorem t_X7_comeSmall_154 {X : hs_T} (C : hs_C X 1 RX7 cX7_comeSmall 10 2) {res : Int32 × hs_M} (hf : hs_FI X cX7_comeSmall res) (x1 : Int32) (x2 : Int32) (x4 : Int32) (x5 : Int32) (y0 : Int32) (S : hs_M) (h : f_X7_comeSmall_154 x1 x2 x4 x5 y0 S = some res) : hs_Z X 10 S [(0, .ref (hs_q X 100)), (1, .int x1), (2, .int x2), (4, .int x4), (5, .int x5)] [.int y0] 154 := by
  unfold f_X7_comeSmall_154 at h
  refine hs_istore (lv' := [(6, .int y0), (0, .ref (hs_q X 100)), (1, .int x1), (2, .int x2), (4, .int x4), (5, .int x5)]) C dX7_comeSmall_154 (by decide) rfl ?_
  refine hs_aload_n C dX7_comeSmall_156 1 rfl rfl ?_
  refine hs_aload_n C dX7_comeSmall_157 1 rfl rfl ?_
  refine gf_X7_71 C dX7_comeSmall_158 ?_
  refine hs_iload_n C dX7_comeSmall_161 2 rfl rfl ?_
  refine hs_ald (kd := 14) C (Or.inr rfl) rfl (show hs_K 121 = 14 by decide +kernel) h dX7_comeSmall_162 (fun h => ?_)
  refine hs_iload_n C dX7_comeSmall_163 3 rfl rfl ?_
  refine hs_iload C dX7_comeSmall_164 4 rfl ?_
  obtain ⟨r_3, S_1, hc_2, h⟩ := hs_b2_s h
  refine cs_X7_170 C (m_X7_near (S 121 x1.toNatClampNeg) x2 x4 S hc_2) (by decide) (Nat.le_of_ble_eq_true rfl) dX7_comeSmall_166 ?_
  refine hs_istore (lv' := [(7, .int r_3), (6, .int y0), (0, .ref (hs_q X 100)), (1, .int x1), (2, .int x2), (4, .int x4), (5, .int x5)]) C dX7_comeSmall_169 (by decide) rfl ?_
  refine hs_iconst (v := 1) C dX7_comeSmall_171 (by decide) ?_
  refine hs_istore (lv' := [(8, .int (1 : Int32)), (7, .int r_3), (6, .int y0), (0, .ref (hs_q X 100)), (1, .int x1), (2, .int x2), (4, .int x4), (5, .int x5)]) C dX7_comeSmall_172 (by decide) rfl ?_
  refine hs_aload_n C dX7_comeSmall_174 3 rfl rfl ?_
  refine hs_iload_n C dX7_comeSmall_175 4 rfl rfl ?_
  refine hs_iload_n C dX7_comeSmall_176 5 rfl rfl ?_
  refine hs_iload C dX7_comeSmall_177 1 rfl ?_
  refine hs_iload C dX7_comeSmall_179 7 rfl ?_
  refine hs_iload C dX7_comeSmall_181 2 rfl ?_
  obtain ⟨r_6, S_4, hc_5, h⟩ := hs_b2_s h
  refine cs_X7_174 C (m_X7_fits x1 x2 r_3 x5 y0 S_1 hc_5) (by decide) (Nat.le_of_ble_eq_true rfl) dX7_comeSmall_183 ?_
  refine hs_istore (lv' := [(9, .int r_6), (8, .int (1 : Int32)), (7, .int r_3), (6, .int y0), (0, .ref (hs_q X 100)), (1, .int x1), (2, .int x2), (4, .int x4), (5, .int x5)]) C dX7_comeSmall_186 (by decide) rfl ?_
  refine hs_iload C dX7_comeSmall_188 0 rfl ?_
  refine hs_if_ne (tgt := 225) C dX7_comeSmall_190 (by decide) h (fun h => ?_) (fun h => ?_)
  · skip
    refine hs_sub [4, 5, 6, 7, 8, 3, 2, 1, 0] rfl ?_
    exact t_X7_comeSmall_225 C hf  x1 x2 x4 x5 y0 r_3 (1 : Int32) r_6 S_4 h
  · skip
    refine hs_iconst (v := 2) C dX7_comeSmall_193 (by decide) ?_
    refine hs_istore (lv' := [(8, .int (2 : Int32)), (9, .int r_6), (7, .int r_3), (6, .int y0), (0, .ref (hs_q X 100)), (1, .int x1), (2, .int x2), (4, .int x4), (5, .int x5)]) C dX7_comeSmall_194 (by decide) rfl ?_
    refine hs_iload C dX7_comeSmall_196 2 rfl ?_
    refine hs_iconst (v := 1) C dX7_comeSmall_198 (by decide) ?_
    refine hs_aload_n C dX7_comeSmall_199 4 rfl rfl ?_
    refine hs_iload_n C dX7_comeSmall_200 6 rfl rfl ?_
    obtain ⟨r_9, S_7, hc_8, h⟩ := hs_b2_s h
    refine cs_X7_118 C (m_X7_bitsOf x2 S_4 hc_8) (by decide) (Nat.le_of_ble_eq_true rfl) dX7_comeSmall_201 ?_
    refine hs_ishl C dX7_comeSmall_204 ?_
    refine hs_iadd C dX7_comeSmall_205 ?_
    refine hs_ldc C ww_313 dX7_comeSmall_206 ?_
    refine hs_iand C dX7_comeSmall_208 ?_
    refine hs_top h (fun x_10 h => ?_)
    refine hs_istore (lv' := [(7, .int x_10), (8, .int (2 : Int32)), (9, .int r_6), (6, .int y0), (0, .ref (hs_q X 100)), (1, .int x1), (2, .int x2), (4, .int x4), (5, .int x5)]) C dX7_comeSmall_209 (by decide) rfl ?_
    refine hs_aload_n C dX7_comeSmall_211 4 rfl rfl ?_
    refine hs_iload_n C dX7_comeSmall_212 5 rfl rfl ?_
    refine hs_iload_n C dX7_comeSmall_213 6 rfl rfl ?_
    refine hs_iload C dX7_comeSmall_214 0 rfl ?_
    refine hs_iload C dX7_comeSmall_216 8 rfl ?_
    refine hs_iload C dX7_comeSmall_218 3 rfl ?_
    obtain ⟨r_13, S_11, hc_12, h⟩ := hs_b2_s h
    refine cs_X7_174 C (m_X7_fits x1 x2 x_10 x5 y0 S_7 hc_12) (by decide) (Nat.le_of_ble_eq_true rfl) dX7_comeSmall_220 ?_
    refine hs_istore (lv' := [(9, .int r_13), (7, .int x_10), (8, .int (2 : Int32)), (6, .int y0), (0, .ref (hs_q X 100)), (1, .int x1), (2, .int x2), (4, .int x4), (5, .int x5)]) C dX7_comeSmall_223 (by decide) rfl ?_
    refine hs_sub [4, 5, 6, 7, 8, 3, 1, 2, 0] rfl ?_
    exact t_X7_comeSmall_225 C hf  x1 x2 x4 x5 y0 x_10 (2 : Int32) r_13 S_11 h
set_option maxRecDepth 100000 in
set_option maxHeartbeats 4000000 in
theorem t_X7_comeSmall_108 {X : hs_T} (C : hs_C X 1 RX7 cX7_comeSmall 10 2) {res : Int32 × hs_M} (hf : hs_FI X cX7_comeSmall res) (x1 : Int32) (x2 : Int32) (x3 : Int32) (x4 : Int32) (y0 : Int32) (S : hs_M) (h : f_X7_comeSmall_108 x1 x2 x3 x4 y0 S = some res) : hs_Z X 10 S [(0, .ref (hs_q X 100)), (1, .int x1), (2, .int x2), (3, .int x3), (4, .int x4)] [.int y0] 108 := by
  unfold f_X7_comeSmall_108 at h
  refine hs_istore (lv' := [(5, .int y0), (0, .ref (hs_q X 100)), (1, .int x1), (2, .int x2), (3, .int x3), (4, .int x4)]) C dX7_comeSmall_108 (by decide) rfl ?_
  refine hs_iload_n C dX7_comeSmall_110 3 rfl rfl ?_
  refine hs_if_ne (tgt := 126) C dX7_comeSmall_111 (by decide) h (fun h => ?_) (fun h => ?_)
  · skip
    refine hs_iload_n C dX7_comeSmall_126 3 rfl rfl ?_
    refine hs_iconst (v := 1) C dX7_comeSmall_127 (by decide) ?_
    refine hs_icmp_ne (tgt := 146) C dX7_comeSmall_128 (by decide) h (fun h => ?_) (fun h => ?_)
    · skip
      refine hs_aload_n C dX7_comeSmall_146 1 rfl rfl ?_
      refine gf_X7_89 C dX7_comeSmall_147 ?_
      refine hs_iload_n C dX7_comeSmall_150 4 rfl rfl ?_
      refine hs_iconst (v := 2) C dX7_comeSmall_151 (by decide) ?_
      refine hs_iadd C dX7_comeSmall_152 ?_
      refine hs_top h (fun x_1 h => ?_)
      refine hs_ald (kd := 14) C (Or.inr rfl) rfl (show hs_K 127 = 14 by decide +kernel) h dX7_comeSmall_153 (fun h => ?_)
      refine hs_sub [1, 2, 3, 5, 0] rfl ?_
      exact t_X7_comeSmall_154 C hf  x1 x2 x4 y0 (S 127 x_1.toNatClampNeg) S h
    · skip
      refine hs_aload_n C dX7_comeSmall_131 1 rfl rfl ?_
      refine gf_X7_89 C dX7_comeSmall_132 ?_
      refine hs_iload_n C dX7_comeSmall_135 4 rfl rfl ?_
      refine hs_iconst (v := 1) C dX7_comeSmall_136 (by decide) ?_
      refine hs_iadd C dX7_comeSmall_137 ?_
      refine hs_top h (fun x_2 h => ?_)
      refine hs_ald (kd := 14) C (Or.inr rfl) rfl (show hs_K 127 = 14 by decide +kernel) h dX7_comeSmall_138 (fun h => ?_)
      refine hs_sipush (v := 128) C dX7_comeSmall_139 (by decide) ?_
      refine hs_irem C dX7_comeSmall_142 (by decide) ?_
      refine hs_goto (tgt := 154) C dX7_comeSmall_143 (by decide) ?_
      refine hs_sub [1, 2, 3, 5, 0] rfl ?_
      exact t_X7_comeSmall_154 C hf  x1 x2 x4 y0 (hs_rem (S 127 x_2.toNatClampNeg) (128 : Int32)) S h
  · skip
    refine hs_aload_n C dX7_comeSmall_114 1 rfl rfl ?_
    refine gf_X7_89 C dX7_comeSmall_115 ?_
    refine hs_iload_n C dX7_comeSmall_118 4 rfl rfl ?_
    refine hs_ald (kd := 14) C (Or.inr rfl) rfl (show hs_K 127 = 14 by decide +kernel) h dX7_comeSmall_119 (fun h => ?_)
    refine hs_bipush (v := 8) C dX7_comeSmall_120 (by decide) ?_
    refine hs_irem C dX7_comeSmall_122 (by decide) ?_
    refine hs_goto (tgt := 154) C dX7_comeSmall_123 (by decide) ?_
    refine hs_sub [1, 2, 3, 5, 0] rfl ?_
    exact t_X7_comeSmall_154 C hf  x1 x2 x4 y0 (hs_rem (S 127 x3.toNatClampNeg) (8 : Int32)) S h
set_option maxRecDepth 100000 in
set_option maxHeartbeats 4000000 in
theorem t_X7_comeSmall_107 {X : hs_T} (C : hs_C X 1 RX7 cX7_comeSmall 10 2) {res : Int32 × hs_M} (hf : hs_FI X cX7_comeSmall res) (x1 : Int32) (x2 : Int32) (x3 : Int32) (x4 : Int32) (S : hs_M) (h : f_X7_comeSmall_107 x1 x2 x3 x4 S = some res) : hs_Z X 10 S [(0, .ref (hs_q X 100)), (1, .int x1), (2, .int x2), (3, .int x3), (4, .int x4)] [] 107 := by
  unfold f_X7_comeSmall_107 at h
  refine hs_iconst (v := 0) C dX7_comeSmall_107 (by decide) ?_
  exact t_X7_comeSmall_108 C hf  x1 x2 x3 x4 (0 : Int32) S h
set_option maxRecDepth 100000 in
set_option maxHeartbeats 4000000 in
theorem t_X7_comeSmall_57 {X : hs_T} (C : hs_C X 1 RX7 cX7_comeSmall 10 2) {res : Int32 × hs_M} (hf : hs_FI X cX7_comeSmall res) (x1 : Int32) (x2 : Int32) (x3 : Int32) (y0 : Int32) (S : hs_M) (h : f_X7_comeSmall_57 x1 x2 x3 y0 S = some res) : hs_Z X 10 S [(0, .ref (hs_q X 100)), (1, .int x1), (2, .int x2), (3, .int x3)] [.int y0] 57 := by
  unfold f_X7_comeSmall_57 at h
  refine hs_istore (lv' := [(4, .int y0), (0, .ref (hs_q X 100)), (1, .int x1), (2, .int x2), (3, .int x3)]) C dX7_comeSmall_57 (by decide) rfl ?_
  refine hs_iload_n C dX7_comeSmall_59 3 rfl rfl ?_
  refine hs_iconst (v := 1) C dX7_comeSmall_60 (by decide) ?_
  refine hs_icmp_ne (tgt := 85) C dX7_comeSmall_61 (by decide) h (fun h => ?_) (fun h => ?_)
  · skip
    refine hs_iload_n C dX7_comeSmall_85 3 rfl rfl ?_
    refine hs_iconst (v := 2) C dX7_comeSmall_86 (by decide) ?_
    refine hs_icmp_ne (tgt := 107) C dX7_comeSmall_87 (by decide) h (fun h => ?_) (fun h => ?_)
    · skip
      refine hs_sub [1, 2, 3, 4, 0] rfl ?_
      exact t_X7_comeSmall_107 C hf  x1 x2 x3 y0 S h
    · skip
      refine hs_aload_n C dX7_comeSmall_90 1 rfl rfl ?_
      refine gf_X7_89 C dX7_comeSmall_91 ?_
      refine hs_iload_n C dX7_comeSmall_94 4 rfl rfl ?_
      refine hs_iconst (v := 1) C dX7_comeSmall_95 (by decide) ?_
      refine hs_iadd C dX7_comeSmall_96 ?_
      refine hs_top h (fun x_1 h => ?_)
      refine hs_ald (kd := 14) C (Or.inr rfl) rfl (show hs_K 127 = 14 by decide +kernel) h dX7_comeSmall_97 (fun h => ?_)
      refine hs_iconst (v := 4) C dX7_comeSmall_98 (by decide) ?_
      refine hs_iand C dX7_comeSmall_99 ?_
      refine hs_if_eq (tgt := 107) C dX7_comeSmall_100 (by decide) h (fun h => ?_) (fun h => ?_)
      · skip
        refine hs_sub [1, 2, 3, 4, 0] rfl ?_
        exact t_X7_comeSmall_107 C hf  x1 x2 x3 y0 S h
      · skip
        refine hs_iconst (v := 1) C dX7_comeSmall_103 (by decide) ?_
        refine hs_goto (tgt := 108) C dX7_comeSmall_104 (by decide) ?_
        refine hs_sub [1, 2, 3, 4, 0] rfl ?_
        exact t_X7_comeSmall_108 C hf  x1 x2 x3 y0 (1 : Int32) S h
  · skip
    refine hs_aload_n C dX7_comeSmall_64 1 rfl rfl ?_
    refine gf_X7_89 C dX7_comeSmall_65 ?_
    refine hs_iload_n C dX7_comeSmall_68 4 rfl rfl ?_
    refine hs_iconst (v := 1) C dX7_comeSmall_69 (by decide) ?_
    refine hs_iadd C dX7_comeSmall_70 ?_
    refine hs_top h (fun x_2 h => ?_)
    refine hs_ald (kd := 14) C (Or.inr rfl) rfl (show hs_K 127 = 14 by decide +kernel) h dX7_comeSmall_71 (fun h => ?_)
    refine hs_bipush (v := 127) C dX7_comeSmall_72 (by decide) ?_
    refine hs_icmp_le (tgt := 81) C dX7_comeSmall_74 (by decide) h (fun h => ?_) (fun h => ?_)
    · skip
      refine hs_iconst (v := 0) C dX7_comeSmall_81 (by decide) ?_
      refine hs_goto (tgt := 108) C dX7_comeSmall_82 (by decide) ?_
      refine hs_sub [1, 2, 3, 4, 0] rfl ?_
      exact t_X7_comeSmall_108 C hf  x1 x2 x3 y0 (0 : Int32) S h
    · skip
      refine hs_iconst (v := 1) C dX7_comeSmall_77 (by decide) ?_
      refine hs_goto (tgt := 108) C dX7_comeSmall_78 (by decide) ?_
      refine hs_sub [1, 2, 3, 4, 0] rfl ?_
      exact t_X7_comeSmall_108 C hf  x1 x2 x3 y0 (1 : Int32) S h
set_option maxRecDepth 100000 in
set_option maxHeartbeats 4000000 in
theorem t_X7_comeSmall_0 {X : hs_T} (C : hs_C X 1 RX7 cX7_comeSmall 10 2) {res : Int32 × hs_M} (hf : hs_FI X cX7_comeSmall res) (x1 : Int32) (x2 : Int32) (x3 : Int32) (S : hs_M) (h : f_X7_comeSmall_0 x1 x2 x3 S = some res) : hs_Z X 10 S [(0, .ref (hs_q X 100)), (1, .int x1), (2, .int x2), (3, .int x3)] [] 0 := by
  unfold f_X7_comeSmall_0 at h
  refine hs_iload_n C dX7_comeSmall_0 2 rfl rfl ?_
  refine hs_if_ne (tgt := 16) C dX7_comeSmall_1 (by decide) h (fun h => ?_) (fun h => ?_)
  · skip
    refine hs_iload_n C dX7_comeSmall_16 2 rfl rfl ?_
    refine hs_iconst (v := 1) C dX7_comeSmall_17 (by decide) ?_
    refine hs_icmp_ne (tgt := 33) C dX7_comeSmall_18 (by decide) h (fun h => ?_) (fun h => ?_)
    · skip
      refine hs_aload_n C dX7_comeSmall_33 0 rfl rfl ?_
      refine gf_X7_89 C dX7_comeSmall_34 ?_
      refine hs_iload_n C dX7_comeSmall_37 3 rfl rfl ?_
      refine hs_ald (kd := 14) C (Or.inr rfl) rfl (show hs_K 127 = 14 by decide +kernel) h dX7_comeSmall_38 (fun h => ?_)
      refine hs_bipush (v := 32) C dX7_comeSmall_39 (by decide) ?_
      refine hs_irem C dX7_comeSmall_41 (by decide) ?_
      refine hs_bipush (v := 32) C dX7_comeSmall_42 (by decide) ?_
      refine hs_imul C dX7_comeSmall_44 ?_
      refine hs_aload_n C dX7_comeSmall_45 0 rfl rfl ?_
      refine gf_X7_89 C dX7_comeSmall_46 ?_
      refine hs_iload_n C dX7_comeSmall_49 3 rfl rfl ?_
      refine hs_iconst (v := 1) C dX7_comeSmall_50 (by decide) ?_
      refine hs_iadd C dX7_comeSmall_51 ?_
      refine hs_top h (fun x_1 h => ?_)
      refine hs_ald (kd := 14) C (Or.inr rfl) rfl (show hs_K 127 = 14 by decide +kernel) h dX7_comeSmall_52 (fun h => ?_)
      refine hs_bipush (v := 8) C dX7_comeSmall_53 (by decide) ?_
      refine hs_idiv C dX7_comeSmall_55 (by decide) ?_
      refine hs_iadd C dX7_comeSmall_56 ?_
      exact t_X7_comeSmall_57 C hf  x1 x2 x3 (((hs_rem (S 127 x3.toNatClampNeg) (32 : Int32)) * (32 : Int32)) + ((S 127 x_1.toNatClampNeg) / (8 : Int32))) S h
    · skip
      refine hs_aload_n C dX7_comeSmall_21 0 rfl rfl ?_
      refine gf_X7_89 C dX7_comeSmall_22 ?_
      refine hs_iload_n C dX7_comeSmall_25 3 rfl rfl ?_
      refine hs_ald (kd := 14) C (Or.inr rfl) rfl (show hs_K 127 = 14 by decide +kernel) h dX7_comeSmall_26 (fun h => ?_)
      refine hs_bipush (v := 64) C dX7_comeSmall_27 (by decide) ?_
      refine hs_irem C dX7_comeSmall_29 (by decide) ?_
      refine hs_goto (tgt := 57) C dX7_comeSmall_30 (by decide) ?_
      exact t_X7_comeSmall_57 C hf  x1 x2 x3 (hs_rem (S 127 x3.toNatClampNeg) (64 : Int32)) S h
  · skip
    refine hs_aload_n C dX7_comeSmall_4 0 rfl rfl ?_
    refine gf_X7_89 C dX7_comeSmall_5 ?_
    refine hs_iload_n C dX7_comeSmall_8 3 rfl rfl ?_
    refine hs_ald (kd := 14) C (Or.inr rfl) rfl (show hs_K 127 = 14 by decide +kernel) h dX7_comeSmall_9 (fun h => ?_)
    refine hs_bipush (v := 8) C dX7_comeSmall_10 (by decide) ?_
    refine hs_idiv C dX7_comeSmall_12 (by decide) ?_
    refine hs_goto (tgt := 57) C dX7_comeSmall_13 (by decide) ?_
    exact t_X7_comeSmall_57 C hf  x1 x2 x3 ((S 127 x3.toNatClampNeg) / (8 : Int32)) S h
theorem m_X7_comeSmall (a1 : Int32) (a2 : Int32) (a3 : Int32) (S : hs_M) {r : Int32} {S' : hs_M} (h : f_X7_comeSmall a1 a2 a3 S = some (r, S')) : hs_met 1 yX7_comeSmall cX7_comeSmall 10 (some .int) 2 (fun q => [.ref (q 100), .int a1, .int a2, .int a3]) S (fun q => some (.int r)) S' :=
  hs_mkI (res := (r, S')) (by decide +kernel) (by decide) (fun q => Nat.le_of_ble_eq_true rfl) fun X C hf => (t_X7_comeSmall_0 C hf a1 a2 a3 S h)
set_option maxRecDepth 100000 in
set_option maxHeartbeats 4000000 in
theorem t_X7_comeWhole_202 {X : hs_T} (C : hs_C X 1 RX7 cX7_comeWhole 11 1) {res : Int32 × hs_M} (hf : hs_FB X cX7_comeWhole res) (x1 : Int32) (x4 : Int32) (x5 : Int32) (x6 : Int32) (x7 : Int32) (x8 : Int32) (x9 : Int32) (x10 : Int32) (y1 : Int32) (y2 : Int32) (S : hs_M) (h : f_X7_comeWhole_202 x1 x4 x5 x6 x7 x8 x9 x10 y1 y2 S = some res) : hs_Z X 11 S [(0, .ref (hs_q X 100)), (1, .int x1), (4, .int x4), (5, .int x5), (6, .int x6), (7, .int x7), (8, .int x8), (9, .int x9), (10, .int x10)] [.int y2, .int y1, .ref (hs_q X 100)] 202 := by
  unfold f_X7_comeWhole_202 at h
  obtain ⟨r_3, S_1, hc_2, h⟩ := hs_b2_s h
  refine cs_X7_128 C (m_X7_sum y1 y2 S hc_2) (by decide) (Nat.le_of_ble_eq_true rfl) dX7_comeWhole_202 ?_
  refine hs_aload_n C dX7_comeWhole_205 0 rfl rfl ?_
  refine gf_X7_89 C dX7_comeWhole_206 ?_
  refine hs_iload C dX7_comeWhole_209 5 rfl ?_
  refine hs_bipush (v := 9) C dX7_comeWhole_211 (by decide) ?_
  refine hs_iadd C dX7_comeWhole_213 ?_
  refine hs_top h (fun x_4 h => ?_)
  refine hs_ald (kd := 14) C (Or.inr rfl) rfl (show hs_K 127 = 14 by decide +kernel) h dX7_comeWhole_214 (fun h => ?_)
  refine hs_icmp_eq (tgt := 220) C dX7_comeWhole_215 (by decide) h (fun h => ?_) (fun h => ?_)
  · skip
    refine hs_aload_n C dX7_comeWhole_220 0 rfl rfl ?_
    refine gf_X7_56 C dX7_comeWhole_221 ?_
    refine hs_iload_n C dX7_comeWhole_224 1 rfl rfl ?_
    refine hs_iload C dX7_comeWhole_225 2 rfl ?_
    refine hs_ast (kd := 14) C (Or.inr rfl) rfl (show hs_K 116 = 14 by decide +kernel) h dX7_comeWhole_227 (fun S_5 h => ?_)
    refine hs_aload_n C dX7_comeWhole_228 0 rfl rfl ?_
    refine gf_X7_59 C dX7_comeWhole_229 ?_
    refine hs_iload_n C dX7_comeWhole_232 1 rfl rfl ?_
    refine hs_iload C dX7_comeWhole_233 3 rfl ?_
    refine hs_ast (kd := 14) C (Or.inr rfl) rfl (show hs_K 117 = 14 by decide +kernel) h dX7_comeWhole_235 (fun S_6 h => ?_)
    refine hs_aload_n C dX7_comeWhole_236 0 rfl rfl ?_
    refine gf_X7_62 C dX7_comeWhole_237 ?_
    refine hs_iload_n C dX7_comeWhole_240 1 rfl rfl ?_
    refine hs_iload C dX7_comeWhole_241 4 rfl ?_
    refine hs_ast (kd := 14) C (Or.inr rfl) rfl (show hs_K 118 = 14 by decide +kernel) h dX7_comeWhole_243 (fun S_7 h => ?_)
    refine hs_aload_n C dX7_comeWhole_244 0 rfl rfl ?_
    refine gf_X7_65 C dX7_comeWhole_245 ?_
    refine hs_iload_n C dX7_comeWhole_248 1 rfl rfl ?_
    refine hs_iload C dX7_comeWhole_249 7 rfl ?_
    refine hs_iload C dX7_comeWhole_251 6 rfl ?_
    refine hs_iload C dX7_comeWhole_253 4 rfl ?_
    refine hs_imul C dX7_comeWhole_255 ?_
    refine hs_isub C dX7_comeWhole_256 ?_
    refine hs_ast (kd := 14) C (Or.inr rfl) rfl (show hs_K 119 = 14 by decide +kernel) h dX7_comeWhole_257 (fun S_8 h => ?_)
    refine hs_aload_n C dX7_comeWhole_258 0 rfl rfl ?_
    refine gf_X7_68 C dX7_comeWhole_259 ?_
    refine hs_iload_n C dX7_comeWhole_262 1 rfl rfl ?_
    refine hs_iload C dX7_comeWhole_263 8 rfl ?_
    refine hs_iload C dX7_comeWhole_265 6 rfl ?_
    refine hs_isub C dX7_comeWhole_267 ?_
    refine hs_ldc C ww_313 dX7_comeWhole_268 ?_
    refine hs_iand C dX7_comeWhole_270 ?_
    refine hs_ast (kd := 14) C (Or.inr rfl) rfl (show hs_K 120 = 14 by decide +kernel) h dX7_comeWhole_271 (fun S_9 h => ?_)
    refine hs_aload_n C dX7_comeWhole_272 0 rfl rfl ?_
    refine hs_iload_n C dX7_comeWhole_273 1 rfl rfl ?_
    refine hs_iload C dX7_comeWhole_274 6 rfl ?_
    obtain ⟨S_10, hc_11, h⟩ := hs_b1_s h
    refine cs_X7_178 C (m_X7_keep x1 x8 S_9 hc_11) (by decide) (Nat.le_of_ble_eq_true rfl) dX7_comeWhole_276 ?_
    refine hs_aload_n C dX7_comeWhole_279 0 rfl rfl ?_
    refine gf_X7_53 C dX7_comeWhole_280 ?_
    refine hs_iload_n C dX7_comeWhole_283 1 rfl rfl ?_
    refine hs_iconst (v := 2) C dX7_comeWhole_284 (by decide) ?_
    refine hs_ast (kd := 14) C (Or.inr rfl) rfl (show hs_K 115 = 14 by decide +kernel) h dX7_comeWhole_285 (fun S_12 h => ?_)
    refine hs_iconst (v := 1) C dX7_comeWhole_286 (by decide) ?_
    exact hs_iretb C hf h dX7_comeWhole_287
  · skip
    refine hs_iconst (v := 0) C dX7_comeWhole_218 (by decide) ?_
    exact hs_iretb C hf h dX7_comeWhole_219
set_option maxRecDepth 100000 in
set_option maxHeartbeats 4000000 in
theorem t_X7_comeWhole_152 {X : hs_T} (C : hs_C X 1 RX7 cX7_comeWhole 11 1) {res : Int32 × hs_M} (hf : hs_FB X cX7_comeWhole res) (x1 : Int32) (x2 : Int32) (x4 : Int32) (x5 : Int32) (x6 : Int32) (x7 : Int32) (x8 : Int32) (x9 : Int32) (x10 : Int32) (y1 : Int32) (y2 : Int32) (y3 : Int32) (S : hs_M) (h : f_X7_comeWhole_152 x1 x2 x4 x5 x6 x7 x8 x9 x10 y1 y2 y3 S = some res) : hs_Z X 11 S [(0, .ref (hs_q X 100)), (1, .int x1), (2, .int x2), (4, .int x4), (5, .int x5), (6, .int x6), (7, .int x7), (8, .int x8), (9, .int x9), (10, .int x10)] [.int y3, .int y2, .int y1, .ref (hs_q X 100)] 152 := by
  unfold f_X7_comeWhole_152 at h
  refine hs_iload C dX7_comeWhole_152 7 rfl ?_
  refine hs_iload C dX7_comeWhole_154 8 rfl ?_
  refine hs_iload C dX7_comeWhole_156 9 rfl ?_
  obtain ⟨S_1, hc_2, h⟩ := hs_b1_s h
  refine cs_X7_142 C (m_X7_fill y1 y2 y3 x8 x9 x10 S hc_2) (by decide) (Nat.le_of_ble_eq_true rfl) dX7_comeWhole_158 ?_
  refine hs_aload_n C dX7_comeWhole_161 0 rfl rfl ?_
  refine gf_X7_86 C dX7_comeWhole_162 ?_
  refine hs_bipush (v := 11) C dX7_comeWhole_165 (by decide) ?_
  refine hs_iload C dX7_comeWhole_167 5 rfl ?_
  refine hs_sipush (v := 256) C dX7_comeWhole_169 (by decide) ?_
  refine hs_idiv C dX7_comeWhole_172 (by decide) ?_
  refine hs_ast (kd := 14) C (Or.inr rfl) rfl (show hs_K 126 = 14 by decide +kernel) h dX7_comeWhole_173 (fun S_3 h => ?_)
  refine hs_aload_n C dX7_comeWhole_174 0 rfl rfl ?_
  refine gf_X7_86 C dX7_comeWhole_175 ?_
  refine hs_bipush (v := 12) C dX7_comeWhole_178 (by decide) ?_
  refine hs_iload C dX7_comeWhole_180 5 rfl ?_
  refine hs_sipush (v := 256) C dX7_comeWhole_182 (by decide) ?_
  refine hs_irem C dX7_comeWhole_185 (by decide) ?_
  refine hs_ast (kd := 14) C (Or.inr rfl) rfl (show hs_K 126 = 14 by decide +kernel) h dX7_comeWhole_186 (fun S_4 h => ?_)
  refine hs_aload_n C dX7_comeWhole_187 0 rfl rfl ?_
  refine hs_bipush (v := 8) C dX7_comeWhole_188 (by decide) ?_
  refine hs_iload_n C dX7_comeWhole_190 2 rfl rfl ?_
  refine hs_iconst (v := 4) C dX7_comeWhole_191 (by decide) ?_
  refine hs_icmp_ne (tgt := 200) C dX7_comeWhole_192 (by decide) h (fun h => ?_) (fun h => ?_)
  · skip
    refine hs_bipush (v := 11) C dX7_comeWhole_200 (by decide) ?_
    refine hs_sub [0, 1, 3, 4, 5, 6, 7, 8, 9] rfl ?_
    exact t_X7_comeWhole_202 C hf  x1 x4 x5 x6 x7 x8 x9 x10 (8 : Int32) (11 : Int32) S_4 h
  · skip
    refine hs_bipush (v := 13) C dX7_comeWhole_195 (by decide) ?_
    refine hs_goto (tgt := 202) C dX7_comeWhole_197 (by decide) ?_
    refine hs_sub [0, 1, 3, 4, 5, 6, 7, 8, 9] rfl ?_
    exact t_X7_comeWhole_202 C hf  x1 x4 x5 x6 x7 x8 x9 x10 (8 : Int32) (13 : Int32) S_4 h
set_option maxRecDepth 100000 in
set_option maxHeartbeats 4000000 in
theorem t_X7_comeWhole_85 {X : hs_T} (C : hs_C X 1 RX7 cX7_comeWhole 11 1) {res : Int32 × hs_M} (hf : hs_FB X cX7_comeWhole res) (x1 : Int32) (x2 : Int32) (x4 : Int32) (x5 : Int32) (x6 : Int32) (y0 : Int32) (S : hs_M) (h : f_X7_comeWhole_85 x1 x2 x4 x5 x6 y0 S = some res) : hs_Z X 11 S [(0, .ref (hs_q X 100)), (1, .int x1), (2, .int x2), (4, .int x4), (5, .int x5), (6, .int x6)] [.int y0] 85 := by
  unfold f_X7_comeWhole_85 at h
  refine hs_istore (lv' := [(7, .int y0), (0, .ref (hs_q X 100)), (1, .int x1), (2, .int x2), (4, .int x4), (5, .int x5), (6, .int x6)]) C dX7_comeWhole_85 (by decide) rfl ?_
  refine hs_aload_n C dX7_comeWhole_87 1 rfl rfl ?_
  refine hs_iload C dX7_comeWhole_88 0 rfl ?_
  refine hs_iconst (v := 1) C dX7_comeWhole_90 (by decide) ?_
  refine hs_iadd C dX7_comeWhole_91 ?_
  obtain ⟨r_3, S_1, hc_2, h⟩ := hs_b2_s h
  refine cs_X7_181 C (m_X7_two (y0 + (1 : Int32)) S hc_2) (by decide) (Nat.le_of_ble_eq_true rfl) dX7_comeWhole_92 ?_
  refine hs_istore (lv' := [(8, .int r_3), (7, .int y0), (0, .ref (hs_q X 100)), (1, .int x1), (2, .int x2), (4, .int x4), (5, .int x5), (6, .int x6)]) C dX7_comeWhole_95 (by decide) rfl ?_
  refine hs_aload_n C dX7_comeWhole_97 2 rfl rfl ?_
  refine hs_iload C dX7_comeWhole_98 1 rfl ?_
  refine hs_iconst (v := 3) C dX7_comeWhole_100 (by decide) ?_
  refine hs_iadd C dX7_comeWhole_101 ?_
  obtain ⟨r_6, S_4, hc_5, h⟩ := hs_b2_s h
  refine cs_X7_181 C (m_X7_two (y0 + (3 : Int32)) S_1 hc_5) (by decide) (Nat.le_of_ble_eq_true rfl) dX7_comeWhole_102 ?_
  refine hs_bipush (v := 16) C dX7_comeWhole_105 (by decide) ?_
  refine hs_ishl C dX7_comeWhole_107 ?_
  refine hs_aload_n C dX7_comeWhole_108 2 rfl rfl ?_
  refine hs_iload C dX7_comeWhole_109 1 rfl ?_
  refine hs_iconst (v := 5) C dX7_comeWhole_111 (by decide) ?_
  refine hs_iadd C dX7_comeWhole_112 ?_
  obtain ⟨r_9, S_7, hc_8, h⟩ := hs_b2_s h
  refine cs_X7_181 C (m_X7_two (y0 + (5 : Int32)) S_4 hc_8) (by decide) (Nat.le_of_ble_eq_true rfl) dX7_comeWhole_113 ?_
  refine hs_ior C dX7_comeWhole_116 ?_
  refine hs_top h (fun x_10 h => ?_)
  refine hs_istore (lv' := [(9, .int x_10), (8, .int r_3), (7, .int y0), (0, .ref (hs_q X 100)), (1, .int x1), (2, .int x2), (4, .int x4), (5, .int x5), (6, .int x6)]) C dX7_comeWhole_117 (by decide) rfl ?_
  refine hs_aload_n C dX7_comeWhole_119 3 rfl rfl ?_
  refine hs_iload C dX7_comeWhole_120 2 rfl ?_
  refine hs_bipush (v := 7) C dX7_comeWhole_122 (by decide) ?_
  refine hs_iadd C dX7_comeWhole_124 ?_
  obtain ⟨r_13, S_11, hc_12, h⟩ := hs_b2_s h
  refine cs_X7_181 C (m_X7_two (y0 + (7 : Int32)) S_7 hc_12) (by decide) (Nat.le_of_ble_eq_true rfl) dX7_comeWhole_125 ?_
  refine hs_istore (lv' := [(10, .int r_13), (9, .int x_10), (8, .int r_3), (7, .int y0), (0, .ref (hs_q X 100)), (1, .int x1), (2, .int x2), (4, .int x4), (5, .int x5), (6, .int x6)]) C dX7_comeWhole_128 (by decide) rfl ?_
  refine hs_aload_n C dX7_comeWhole_130 4 rfl rfl ?_
  refine hs_iload C dX7_comeWhole_131 7 rfl ?_
  refine hs_iload C dX7_comeWhole_133 8 rfl ?_
  refine hs_aload_n C dX7_comeWhole_135 4 rfl rfl ?_
  refine gf_X7_89 C dX7_comeWhole_136 ?_
  refine hs_iload C dX7_comeWhole_139 3 rfl ?_
  refine hs_ald (kd := 14) C (Or.inr rfl) rfl (show hs_K 127 = 14 by decide +kernel) h dX7_comeWhole_141 (fun h => ?_)
  refine hs_bipush (v := 127) C dX7_comeWhole_142 (by decide) ?_
  refine hs_icmp_le (tgt := 151) C dX7_comeWhole_144 (by decide) h (fun h => ?_) (fun h => ?_)
  · skip
    refine hs_iconst (v := 0) C dX7_comeWhole_151 (by decide) ?_
    refine hs_sub [4, 5, 6, 7, 8, 9, 3, 2, 1, 0] rfl ?_
    exact t_X7_comeWhole_152 C hf  x1 x2 x4 x5 x6 y0 r_3 x_10 r_13 x4 x5 (0 : Int32) S_11 h
  · skip
    refine hs_iconst (v := 1) C dX7_comeWhole_147 (by decide) ?_
    refine hs_goto (tgt := 152) C dX7_comeWhole_148 (by decide) ?_
    refine hs_sub [4, 5, 6, 7, 8, 9, 3, 2, 1, 0] rfl ?_
    exact t_X7_comeWhole_152 C hf  x1 x2 x4 x5 x6 y0 r_3 x_10 r_13 x4 x5 (1 : Int32) S_11 h
set_option maxRecDepth 100000 in
set_option maxHeartbeats 4000000 in
theorem t_X7_comeWhole_68 {X : hs_T} (C : hs_C X 1 RX7 cX7_comeWhole 11 1) {res : Int32 × hs_M} (hf : hs_FB X cX7_comeWhole res) (x1 : Int32) (x2 : Int32) (x3 : Int32) (x4 : Int32) (x5 : Int32) (y0 : Int32) (S : hs_M) (h : f_X7_comeWhole_68 x1 x2 x3 x4 x5 y0 S = some res) : hs_Z X 11 S [(0, .ref (hs_q X 100)), (1, .int x1), (2, .int x2), (3, .int x3), (4, .int x4), (5, .int x5)] [.int y0] 68 := by
  unfold f_X7_comeWhole_68 at h
  refine hs_istore (lv' := [(6, .int y0), (0, .ref (hs_q X 100)), (1, .int x1), (2, .int x2), (3, .int x3), (4, .int x4), (5, .int x5)]) C dX7_comeWhole_68 (by decide) rfl ?_
  refine hs_iload_n C dX7_comeWhole_70 3 rfl rfl ?_
  refine hs_iconst (v := 4) C dX7_comeWhole_71 (by decide) ?_
  refine hs_icmp_ne (tgt := 82) C dX7_comeWhole_72 (by decide) h (fun h => ?_) (fun h => ?_)
  · skip
    refine hs_iload_n C dX7_comeWhole_82 4 rfl rfl ?_
    refine hs_iconst (v := 1) C dX7_comeWhole_83 (by decide) ?_
    refine hs_iadd C dX7_comeWhole_84 ?_
    refine hs_sub [1, 2, 3, 5, 6, 0] rfl ?_
    exact t_X7_comeWhole_85 C hf  x1 x2 x4 x5 y0 (x3 + (1 : Int32)) S h
  · skip
    refine hs_iload_n C dX7_comeWhole_75 4 rfl rfl ?_
    refine hs_bipush (v := 6) C dX7_comeWhole_76 (by decide) ?_
    refine hs_iadd C dX7_comeWhole_78 ?_
    refine hs_goto (tgt := 85) C dX7_comeWhole_79 (by decide) ?_
    refine hs_sub [1, 2, 3, 5, 6, 0] rfl ?_
    exact t_X7_comeWhole_85 C hf  x1 x2 x4 x5 y0 (x3 + (6 : Int32)) S h
set_option maxRecDepth 100000 in
set_option maxHeartbeats 4000000 in
theorem t_X7_comeWhole_45 {X : hs_T} (C : hs_C X 1 RX7 cX7_comeWhole 11 1) {res : Int32 × hs_M} (hf : hs_FB X cX7_comeWhole res) (x1 : Int32) (x2 : Int32) (x3 : Int32) (x4 : Int32) (y0 : Int32) (S : hs_M) (h : f_X7_comeWhole_45 x1 x2 x3 x4 y0 S = some res) : hs_Z X 11 S [(0, .ref (hs_q X 100)), (1, .int x1), (2, .int x2), (3, .int x3), (4, .int x4)] [.int y0] 45 := by
  unfold f_X7_comeWhole_45 at h
  refine hs_istore (lv' := [(5, .int y0), (0, .ref (hs_q X 100)), (1, .int x1), (2, .int x2), (3, .int x3), (4, .int x4)]) C dX7_comeWhole_45 (by decide) rfl ?_
  refine hs_iload_n C dX7_comeWhole_47 3 rfl rfl ?_
  refine hs_iconst (v := 4) C dX7_comeWhole_48 (by decide) ?_
  refine hs_icmp_ne (tgt := 62) C dX7_comeWhole_49 (by decide) h (fun h => ?_) (fun h => ?_)
  · skip
    refine hs_aload_n C dX7_comeWhole_62 1 rfl rfl ?_
    refine gf_X7_62 C dX7_comeWhole_63 ?_
    refine hs_iload_n C dX7_comeWhole_66 2 rfl rfl ?_
    refine hs_ald (kd := 14) C (Or.inr rfl) rfl (show hs_K 118 = 14 by decide +kernel) h dX7_comeWhole_67 (fun h => ?_)
    refine hs_sub [1, 2, 3, 4, 5, 0] rfl ?_
    exact t_X7_comeWhole_68 C hf  x1 x2 x3 x4 y0 (S 118 x1.toNatClampNeg) S h
  · skip
    refine hs_aload_n C dX7_comeWhole_52 1 rfl rfl ?_
    refine hs_iload_n C dX7_comeWhole_53 4 rfl rfl ?_
    refine hs_iconst (v := 4) C dX7_comeWhole_54 (by decide) ?_
    refine hs_iadd C dX7_comeWhole_55 ?_
    obtain ⟨r_3, S_1, hc_2, h⟩ := hs_b2_s h
    refine cs_X7_181 C (m_X7_two (x3 + (4 : Int32)) S hc_2) (by decide) (Nat.le_of_ble_eq_true rfl) dX7_comeWhole_56 ?_
    refine hs_goto (tgt := 68) C dX7_comeWhole_59 (by decide) ?_
    refine hs_sub [1, 2, 3, 4, 5, 0] rfl ?_
    exact t_X7_comeWhole_68 C hf  x1 x2 x3 x4 y0 r_3 S_1 h
set_option maxRecDepth 100000 in
set_option maxHeartbeats 4000000 in
theorem t_X7_comeWhole_21 {X : hs_T} (C : hs_C X 1 RX7 cX7_comeWhole 11 1) {res : Int32 × hs_M} (hf : hs_FB X cX7_comeWhole res) (x1 : Int32) (x2 : Int32) (x3 : Int32) (y0 : Int32) (S : hs_M) (h : f_X7_comeWhole_21 x1 x2 x3 y0 S = some res) : hs_Z X 11 S [(0, .ref (hs_q X 100)), (1, .int x1), (2, .int x2), (3, .int x3)] [.int y0] 21 := by
  unfold f_X7_comeWhole_21 at h
  refine hs_istore (lv' := [(4, .int y0), (0, .ref (hs_q X 100)), (1, .int x1), (2, .int x2), (3, .int x3)]) C dX7_comeWhole_21 (by decide) rfl ?_
  refine hs_iload_n C dX7_comeWhole_23 3 rfl rfl ?_
  refine hs_iconst (v := 4) C dX7_comeWhole_24 (by decide) ?_
  refine hs_icmp_ne (tgt := 39) C dX7_comeWhole_25 (by decide) h (fun h => ?_) (fun h => ?_)
  · skip
    refine hs_aload_n C dX7_comeWhole_39 1 rfl rfl ?_
    refine gf_X7_59 C dX7_comeWhole_40 ?_
    refine hs_iload_n C dX7_comeWhole_43 2 rfl rfl ?_
    refine hs_ald (kd := 14) C (Or.inr rfl) rfl (show hs_K 117 = 14 by decide +kernel) h dX7_comeWhole_44 (fun h => ?_)
    refine hs_sub [1, 2, 3, 4, 0] rfl ?_
    exact t_X7_comeWhole_45 C hf  x1 x2 x3 y0 (S 117 x1.toNatClampNeg) S h
  · skip
    refine hs_aload_n C dX7_comeWhole_28 1 rfl rfl ?_
    refine gf_X7_89 C dX7_comeWhole_29 ?_
    refine hs_iload_n C dX7_comeWhole_32 4 rfl rfl ?_
    refine hs_iconst (v := 3) C dX7_comeWhole_33 (by decide) ?_
    refine hs_iadd C dX7_comeWhole_34 ?_
    refine hs_top h (fun x_1 h => ?_)
    refine hs_ald (kd := 14) C (Or.inr rfl) rfl (show hs_K 127 = 14 by decide +kernel) h dX7_comeWhole_35 (fun h => ?_)
    refine hs_goto (tgt := 45) C dX7_comeWhole_36 (by decide) ?_
    refine hs_sub [1, 2, 3, 4, 0] rfl ?_
    exact t_X7_comeWhole_45 C hf  x1 x2 x3 y0 (S 127 x_1.toNatClampNeg) S h
set_option maxRecDepth 100000 in
set_option maxHeartbeats 4000000 in
theorem t_X7_comeWhole_0 {X : hs_T} (C : hs_C X 1 RX7 cX7_comeWhole 11 1) {res : Int32 × hs_M} (hf : hs_FB X cX7_comeWhole res) (x1 : Int32) (x2 : Int32) (x3 : Int32) (S : hs_M) (h : f_X7_comeWhole_0 x1 x2 x3 S = some res) : hs_Z X 11 S [(0, .ref (hs_q X 100)), (1, .int x1), (2, .int x2), (3, .int x3)] [] 0 := by
  unfold f_X7_comeWhole_0 at h
  refine hs_iload_n C dX7_comeWhole_0 2 rfl rfl ?_
  refine hs_iconst (v := 4) C dX7_comeWhole_1 (by decide) ?_
  refine hs_icmp_ne (tgt := 15) C dX7_comeWhole_2 (by decide) h (fun h => ?_) (fun h => ?_)
  · skip
    refine hs_aload_n C dX7_comeWhole_15 0 rfl rfl ?_
    refine gf_X7_56 C dX7_comeWhole_16 ?_
    refine hs_iload_n C dX7_comeWhole_19 1 rfl rfl ?_
    refine hs_ald (kd := 14) C (Or.inr rfl) rfl (show hs_K 116 = 14 by decide +kernel) h dX7_comeWhole_20 (fun h => ?_)
    exact t_X7_comeWhole_21 C hf  x1 x2 x3 (S 116 x1.toNatClampNeg) S h
  · skip
    refine hs_aload_n C dX7_comeWhole_5 0 rfl rfl ?_
    refine hs_iload_n C dX7_comeWhole_6 3 rfl rfl ?_
    refine hs_iconst (v := 1) C dX7_comeWhole_7 (by decide) ?_
    refine hs_iadd C dX7_comeWhole_8 ?_
    obtain ⟨r_3, S_1, hc_2, h⟩ := hs_b2_s h
    refine cs_X7_181 C (m_X7_two (x3 + (1 : Int32)) S hc_2) (by decide) (Nat.le_of_ble_eq_true rfl) dX7_comeWhole_9 ?_
    refine hs_goto (tgt := 21) C dX7_comeWhole_12 (by decide) ?_
    exact t_X7_comeWhole_21 C hf  x1 x2 x3 r_3 S_1 h
theorem m_X7_comeWhole (a1 : Int32) (a2 : Int32) (a3 : Int32) (S : hs_M) {r : Int32} {S' : hs_M} (h : f_X7_comeWhole a1 a2 a3 S = some (r, S')) : hs_met 1 yX7_comeWhole cX7_comeWhole 11 (some .boolean) 1 (fun q => [.ref (q 100), .int a1, .int a2, .int a3]) S (fun q => some (.int r)) S' :=
  hs_mkB (res := (r, S')) (by decide +kernel) (by decide) (fun q => Nat.le_of_ble_eq_true rfl) fun X C hf => (t_X7_comeWhole_0 C hf a1 a2 a3 S h)
set_option maxRecDepth 100000 in
set_option maxHeartbeats 4000000 in
theorem t_X7_deliver_289 {X : hs_T} (C : hs_C X 1 RX7 cX7_deliver 6 3) {res : Int32 × hs_M} (hf : hs_FI X cX7_deliver res) (y0 : Int32) (y1 : Int32) (S : hs_M) (h : f_X7_deliver_289 y0 y1 S = some res) : hs_Z X 6 S [] [.int y1, .int y0] 289 := by
  unfold f_X7_deliver_289 at h
  refine hs_iadd C dX7_deliver_289 ?_
  exact hs_ireti C hf h dX7_deliver_290
set_option maxRecDepth 100000 in
set_option maxHeartbeats 4000000 in
theorem t_X7_deliver_258 {X : hs_T} (C : hs_C X 1 RX7 cX7_deliver 6 3) {res : Int32 × hs_M} (hf : hs_FI X cX7_deliver res) (x3 : Int32) (y0 : Int32) (S : hs_M) (h : f_X7_deliver_258 x3 y0 S = some res) : hs_Z X 6 S [(0, .ref (hs_q X 100)), (3, .int x3)] [.int y0] 258 := by
  unfold f_X7_deliver_258 at h
  refine hs_istore (lv' := [(5, .int y0), (0, .ref (hs_q X 100)), (3, .int x3)]) C dX7_deliver_258 (by decide) rfl ?_
  refine hs_iload C dX7_deliver_260 0 rfl ?_
  refine hs_if_ne (tgt := 277) C dX7_deliver_262 (by decide) h (fun h => ?_) (fun h => ?_)
  · skip
    refine hs_iload_n C dX7_deliver_277 2 rfl rfl ?_
    refine hs_iload C dX7_deliver_278 0 rfl ?_
    refine hs_iconst (v := 2) C dX7_deliver_280 (by decide) ?_
    refine hs_icmp_ne (tgt := 288) C dX7_deliver_281 (by decide) h (fun h => ?_) (fun h => ?_)
    · skip
      refine hs_iconst (v := 0) C dX7_deliver_288 (by decide) ?_
      refine hs_sub [] rfl ?_
      exact t_X7_deliver_289 C hf  x3 (0 : Int32) S h
    · skip
      refine hs_iconst (v := 4) C dX7_deliver_284 (by decide) ?_
      refine hs_goto (tgt := 289) C dX7_deliver_285 (by decide) ?_
      refine hs_sub [] rfl ?_
      exact t_X7_deliver_289 C hf  x3 (4 : Int32) S h
  · skip
    refine hs_aload_n C dX7_deliver_265 1 rfl rfl ?_
    refine hs_iload_n C dX7_deliver_266 2 rfl rfl ?_
    obtain ⟨S_1, hc_2, h⟩ := hs_b1_s h
    refine cs_X7_196 C (m_X7_fail x3 S hc_2) (by decide) (Nat.le_of_ble_eq_true rfl) dX7_deliver_267 ?_
    refine hs_aload_n C dX7_deliver_270 1 rfl rfl ?_
    refine hs_iconst (v := 4) C dX7_deliver_271 (by decide) ?_
    refine pf_X7_92 C h dX7_deliver_272 (fun S_3 h => ?_)
    refine hs_iconst (v := 0) C dX7_deliver_275 (by decide) ?_
    exact hs_ireti C hf h dX7_deliver_276
set_option maxRecDepth 100000 in
set_option maxHeartbeats 4000000 in
theorem t_X7_deliver_225 {X : hs_T} (C : hs_C X 1 RX7 cX7_deliver 6 3) {res : Int32 × hs_M} (hf : hs_FI X cX7_deliver res) (x2 : Int32) (x3 : Int32) (x4 : Int32) (S : hs_M) (h : f_X7_deliver_225 x2 x3 x4 S = some res) : hs_Z X 6 S [(0, .ref (hs_q X 100)), (2, .int x2), (3, .int x3), (4, .int x4)] [] 225 := by
  unfold f_X7_deliver_225 at h
  refine hs_iload C dX7_deliver_225 3 rfl ?_
  refine hs_iconst (v := 3) C dX7_deliver_227 (by decide) ?_
  refine hs_icmp_ge (tgt := 242) C dX7_deliver_228 (by decide) h (fun h => ?_) (fun h => ?_)
  · skip
    refine hs_aload_n C dX7_deliver_242 0 rfl rfl ?_
    refine hs_iload_n C dX7_deliver_243 2 rfl rfl ?_
    refine hs_iload C dX7_deliver_244 3 rfl ?_
    refine hs_iload_n C dX7_deliver_246 1 rfl rfl ?_
    obtain ⟨r_3, S_1, hc_2, h⟩ := hs_b2_s h
    refine cs_X7_193 C (m_X7_comeWhole x3 x4 x2 S hc_2) (by decide) (Nat.le_of_ble_eq_true rfl) dX7_deliver_247 ?_
    refine hs_if_eq (tgt := 257) C dX7_deliver_250 (by decide) h (fun h => ?_) (fun h => ?_)
    · skip
      refine hs_iconst (v := 0) C dX7_deliver_257 (by decide) ?_
      refine hs_sub [0, 2] rfl ?_
      exact t_X7_deliver_258 C hf  x3 (0 : Int32) S_1 h
    · skip
      refine hs_iconst (v := 1) C dX7_deliver_253 (by decide) ?_
      refine hs_goto (tgt := 258) C dX7_deliver_254 (by decide) ?_
      refine hs_sub [0, 2] rfl ?_
      exact t_X7_deliver_258 C hf  x3 (1 : Int32) S_1 h
  · skip
    refine hs_aload_n C dX7_deliver_231 0 rfl rfl ?_
    refine hs_iload_n C dX7_deliver_232 2 rfl rfl ?_
    refine hs_iload C dX7_deliver_233 3 rfl ?_
    refine hs_iload_n C dX7_deliver_235 1 rfl rfl ?_
    obtain ⟨r_6, S_4, hc_5, h⟩ := hs_b2_s h
    refine cs_X7_190 C (m_X7_comeSmall x3 x4 x2 S hc_5) (by decide) (Nat.le_of_ble_eq_true rfl) dX7_deliver_236 ?_
    refine hs_goto (tgt := 258) C dX7_deliver_239 (by decide) ?_
    refine hs_sub [0, 2] rfl ?_
    exact t_X7_deliver_258 C hf  x3 r_6 S_4 h
set_option maxRecDepth 100000 in
set_option maxHeartbeats 4000000 in
theorem t_X7_deliver_207 {X : hs_T} (C : hs_C X 1 RX7 cX7_deliver 6 3) {res : Int32 × hs_M} (hf : hs_FI X cX7_deliver res) (S : hs_M) (h : f_X7_deliver_207  S = some res) : hs_Z X 6 S [(0, .ref (hs_q X 100))] [] 207 := by
  unfold f_X7_deliver_207 at h
  refine hs_aload_n C dX7_deliver_207 0 rfl rfl ?_
  refine gf_X7_83 C dX7_deliver_208 ?_
  refine hs_bipush (v := 9) C dX7_deliver_211 (by decide) ?_
  refine hs_dup2 C dX7_deliver_213 rfl rfl ?_
  refine hs_ald (kd := 14) C (Or.inr rfl) rfl (show hs_K 125 = 14 by decide +kernel) h dX7_deliver_214 (fun h => ?_)
  refine hs_iconst (v := 1) C dX7_deliver_215 (by decide) ?_
  refine hs_iadd C dX7_deliver_216 ?_
  refine hs_ast (kd := 14) C (Or.inr rfl) rfl (show hs_K 125 = 14 by decide +kernel) h dX7_deliver_217 (fun S_1 h => ?_)
  refine hs_aload_n C dX7_deliver_218 0 rfl rfl ?_
  refine hs_iconst (v := 3) C dX7_deliver_219 (by decide) ?_
  refine pf_X7_92 C h dX7_deliver_220 (fun S_2 h => ?_)
  refine hs_iconst (v := 0) C dX7_deliver_223 (by decide) ?_
  exact hs_ireti C hf h dX7_deliver_224
set_option maxRecDepth 100000 in
set_option maxHeartbeats 4000000 in
theorem t_X7_deliver_191 {X : hs_T} (C : hs_C X 1 RX7 cX7_deliver 6 3) {res : Int32 × hs_M} (hf : hs_FI X cX7_deliver res) (x2 : Int32) (x3 : Int32) (x4 : Int32) (S : hs_M) (h : f_X7_deliver_191 x2 x3 x4 S = some res) : hs_Z X 6 S [(0, .ref (hs_q X 100)), (2, .int x2), (3, .int x3), (4, .int x4)] [] 191 := by
  unfold f_X7_deliver_191 at h
  refine hs_iload C dX7_deliver_191 3 rfl ?_
  refine hs_iconst (v := 3) C dX7_deliver_193 (by decide) ?_
  refine hs_icmp_ge (tgt := 225) C dX7_deliver_194 (by decide) h (fun h => ?_) (fun h => ?_)
  · skip
    exact t_X7_deliver_225 C hf  x2 x3 x4 S h
  · skip
    refine hs_aload_n C dX7_deliver_197 0 rfl rfl ?_
    refine gf_X7_53 C dX7_deliver_198 ?_
    refine hs_iload_n C dX7_deliver_201 2 rfl rfl ?_
    refine hs_ald (kd := 14) C (Or.inr rfl) rfl (show hs_K 115 = 14 by decide +kernel) h dX7_deliver_202 (fun h => ?_)
    refine hs_iconst (v := 2) C dX7_deliver_203 (by decide) ?_
    refine hs_icmp_ge (tgt := 225) C dX7_deliver_204 (by decide) h (fun h => ?_) (fun h => ?_)
    · skip
      exact t_X7_deliver_225 C hf  x2 x3 x4 S h
    · skip
      refine hs_sub [0] rfl ?_
      exact t_X7_deliver_207 C hf   S h
set_option maxRecDepth 100000 in
set_option maxHeartbeats 4000000 in
theorem t_X7_deliver_146 {X : hs_T} (C : hs_C X 1 RX7 cX7_deliver 6 3) {res : Int32 × hs_M} (hf : hs_FI X cX7_deliver res) (x2 : Int32) (x3 : Int32) (y0 : Int32) (S : hs_M) (h : f_X7_deliver_146 x2 x3 y0 S = some res) : hs_Z X 6 S [(0, .ref (hs_q X 100)), (2, .int x2), (3, .int x3)] [.int y0] 146 := by
  unfold f_X7_deliver_146 at h
  refine hs_istore (lv' := [(4, .int y0), (0, .ref (hs_q X 100)), (2, .int x2), (3, .int x3)]) C dX7_deliver_146 (by decide) rfl ?_
  refine hs_aload_n C dX7_deliver_148 1 rfl rfl ?_
  refine hs_iload C dX7_deliver_149 0 rfl ?_
  refine hs_iload_n C dX7_deliver_151 2 rfl rfl ?_
  obtain ⟨r_3, S_1, hc_2, h⟩ := hs_b2_s h
  refine cs_X7_187 C (m_X7_broken y0 x2 S hc_2) (by decide) (Nat.le_of_ble_eq_true rfl) dX7_deliver_152 ?_
  refine hs_if_eq (tgt := 176) C dX7_deliver_155 (by decide) h (fun h => ?_) (fun h => ?_)
  · skip
    refine hs_iload C dX7_deliver_176 0 rfl ?_
    refine hs_iconst (v := 3) C dX7_deliver_178 (by decide) ?_
    refine hs_icmp_ne (tgt := 191) C dX7_deliver_179 (by decide) h (fun h => ?_) (fun h => ?_)
    · skip
      refine hs_sub [1, 2, 3, 0] rfl ?_
      exact t_X7_deliver_191 C hf  x2 x3 y0 S_1 h
    · skip
      refine hs_aload_n C dX7_deliver_182 1 rfl rfl ?_
      refine gf_X7_53 C dX7_deliver_183 ?_
      refine hs_iload_n C dX7_deliver_186 3 rfl rfl ?_
      refine hs_ald (kd := 14) C (Or.inr rfl) rfl (show hs_K 115 = 14 by decide +kernel) h dX7_deliver_187 (fun h => ?_)
      refine hs_if_eq (tgt := 207) C dX7_deliver_188 (by decide) h (fun h => ?_) (fun h => ?_)
      · skip
        refine hs_sub [1] rfl ?_
        exact t_X7_deliver_207 C hf   S_1 h
      · skip
        refine hs_sub [1, 2, 3, 0] rfl ?_
        exact t_X7_deliver_191 C hf  x2 x3 y0 S_1 h
  · skip
    refine hs_aload_n C dX7_deliver_158 1 rfl rfl ?_
    refine gf_X7_83 C dX7_deliver_159 ?_
    refine hs_bipush (v := 8) C dX7_deliver_162 (by decide) ?_
    refine hs_dup2 C dX7_deliver_164 rfl rfl ?_
    refine hs_ald (kd := 14) C (Or.inr rfl) rfl (show hs_K 125 = 14 by decide +kernel) h dX7_deliver_165 (fun h => ?_)
    refine hs_iconst (v := 1) C dX7_deliver_166 (by decide) ?_
    refine hs_iadd C dX7_deliver_167 ?_
    refine hs_ast (kd := 14) C (Or.inr rfl) rfl (show hs_K 125 = 14 by decide +kernel) h dX7_deliver_168 (fun S_4 h => ?_)
    refine hs_aload_n C dX7_deliver_169 1 rfl rfl ?_
    refine hs_iconst (v := 2) C dX7_deliver_170 (by decide) ?_
    refine pf_X7_92 C h dX7_deliver_171 (fun S_5 h => ?_)
    refine hs_iconst (v := 0) C dX7_deliver_174 (by decide) ?_
    exact hs_ireti C hf h dX7_deliver_175
set_option maxRecDepth 100000 in
set_option maxHeartbeats 4000000 in
theorem t_X7_deliver_123 {X : hs_T} (C : hs_C X 1 RX7 cX7_deliver 6 3) {res : Int32 × hs_M} (hf : hs_FI X cX7_deliver res) (x2 : Int32) (y0 : Int32) (S : hs_M) (h : f_X7_deliver_123 x2 y0 S = some res) : hs_Z X 6 S [(0, .ref (hs_q X 100)), (2, .int x2)] [.int y0] 123 := by
  unfold f_X7_deliver_123 at h
  refine hs_istore_n (lv' := [(3, .int y0), (0, .ref (hs_q X 100)), (2, .int x2)]) C dX7_deliver_123 rfl (by decide) rfl ?_
  refine hs_iload_n C dX7_deliver_124 2 rfl rfl ?_
  refine hs_aload_n C dX7_deliver_125 1 rfl rfl ?_
  refine gf_X7_121 C dX7_deliver_126 ?_
  refine hs_icmp_ge (tgt := 145) C dX7_deliver_129 (by decide) h (fun h => ?_) (fun h => ?_)
  · skip
    refine hs_iconst (v := (-1)) C dX7_deliver_145 (by decide) ?_
    refine hs_sub [1, 2, 0] rfl ?_
    exact t_X7_deliver_146 C hf  x2 y0 (-1 : Int32) S h
  · skip
    refine hs_aload_n C dX7_deliver_132 1 rfl rfl ?_
    refine hs_aload_n C dX7_deliver_133 1 rfl rfl ?_
    refine gf_X7_89 C dX7_deliver_134 ?_
    refine hs_iload_n C dX7_deliver_137 2 rfl rfl ?_
    refine hs_ald (kd := 14) C (Or.inr rfl) rfl (show hs_K 127 = 14 by decide +kernel) h dX7_deliver_138 (fun h => ?_)
    obtain ⟨r_3, S_1, hc_2, h⟩ := hs_b2_s h
    refine cs_X7_184 C (m_X7_kindOf (S 127 x2.toNatClampNeg) S hc_2) (by decide) (Nat.le_of_ble_eq_true rfl) dX7_deliver_139 ?_
    refine hs_goto (tgt := 146) C dX7_deliver_142 (by decide) ?_
    refine hs_sub [1, 2, 0] rfl ?_
    exact t_X7_deliver_146 C hf  x2 y0 r_3 S_1 h
set_option maxRecDepth 100000 in
set_option maxHeartbeats 4000000 in
theorem t_X7_deliver_103 {X : hs_T} (C : hs_C X 1 RX7 cX7_deliver 6 3) {res : Int32 × hs_M} (hf : hs_FI X cX7_deliver res) (y0 : Int32) (S : hs_M) (h : f_X7_deliver_103 y0 S = some res) : hs_Z X 6 S [(0, .ref (hs_q X 100))] [.int y0] 103 := by
  unfold f_X7_deliver_103 at h
  refine hs_istore_n (lv' := [(2, .int y0), (0, .ref (hs_q X 100))]) C dX7_deliver_103 rfl (by decide) rfl ?_
  refine hs_iload_n C dX7_deliver_104 0 rfl rfl ?_
  refine hs_iconst (v := 1) C dX7_deliver_105 (by decide) ?_
  refine hs_icmp_ne (tgt := 122) C dX7_deliver_106 (by decide) h (fun h => ?_) (fun h => ?_)
  · skip
    refine hs_iconst (v := 0) C dX7_deliver_122 (by decide) ?_
    refine hs_sub [1, 0] rfl ?_
    exact t_X7_deliver_123 C hf  y0 (0 : Int32) S h
  · skip
    refine hs_aload_n C dX7_deliver_109 1 rfl rfl ?_
    refine gf_X7_89 C dX7_deliver_110 ?_
    refine hs_iconst (v := 0) C dX7_deliver_113 (by decide) ?_
    refine hs_ald (kd := 14) C (Or.inr rfl) rfl (show hs_K 127 = 14 by decide +kernel) h dX7_deliver_114 (fun h => ?_)
    refine hs_sipush (v := 224) C dX7_deliver_115 (by decide) ?_
    refine hs_isub C dX7_deliver_118 ?_
    refine hs_goto (tgt := 123) C dX7_deliver_119 (by decide) ?_
    refine hs_sub [1, 0] rfl ?_
    exact t_X7_deliver_123 C hf  y0 ((S 127 (0 : Int32).toNatClampNeg) - (224 : Int32)) S h
set_option maxRecDepth 100000 in
set_option maxHeartbeats 4000000 in
theorem t_X7_deliver_102 {X : hs_T} (C : hs_C X 1 RX7 cX7_deliver 6 3) {res : Int32 × hs_M} (hf : hs_FI X cX7_deliver res) (S : hs_M) (h : f_X7_deliver_102  S = some res) : hs_Z X 6 S [(0, .ref (hs_q X 100))] [] 102 := by
  unfold f_X7_deliver_102 at h
  refine hs_iconst (v := 0) C dX7_deliver_102 (by decide) ?_
  exact t_X7_deliver_103 C hf  (0 : Int32) S h
set_option maxRecDepth 100000 in
set_option maxHeartbeats 4000000 in
theorem t_X7_deliver_38 {X : hs_T} (C : hs_C X 1 RX7 cX7_deliver 6 3) {res : Int32 × hs_M} (hf : hs_FI X cX7_deliver res) (K38 : Int32 → Int32 → hs_M → Option (Int32 × hs_M)) (hK38 : ∀ (x1 : Int32) (x2 : Int32) (S : hs_M), K38 x1 x2 S = some res → hs_Z X 6 S [(0, .ref (hs_q X 100)), (1, .int x1), (2, .int x2)] [] 38) (x1 : Int32) (x2 : Int32) (S : hs_M) (h : fb_X7_deliver_38 K38 x1 x2 S = some res) : hs_Z X 6 S [(0, .ref (hs_q X 100)), (1, .int x1), (2, .int x2)] [] 38 := by
  unfold fb_X7_deliver_38 at h
  refine hs_iload_n C dX7_deliver_38 2 rfl rfl ?_
  refine hs_aload_n C dX7_deliver_39 0 rfl rfl ?_
  refine gf_X7_121 C dX7_deliver_40 ?_
  refine hs_icmp_ge (tgt := 69) C dX7_deliver_43 (by decide) h (fun h => ?_) (fun h => ?_)
  · skip
    refine hs_aload_n C dX7_deliver_69 0 rfl rfl ?_
    refine hs_iload_n C dX7_deliver_70 1 rfl rfl ?_
    obtain ⟨S_1, hc_2, h⟩ := hs_b1_s h
    refine cs_X7_164 C (m_X7_off x1 S hc_2) (by decide) (Nat.le_of_ble_eq_true rfl) dX7_deliver_71 ?_
    refine hs_aload_n C dX7_deliver_74 0 rfl rfl ?_
    refine gf_X7_89 C dX7_deliver_75 ?_
    refine hs_iconst (v := 0) C dX7_deliver_78 (by decide) ?_
    refine hs_ald (kd := 14) C (Or.inr rfl) rfl (show hs_K 127 = 14 by decide +kernel) h dX7_deliver_79 (fun h => ?_)
    refine hs_sipush (v := 224) C dX7_deliver_80 (by decide) ?_
    refine hs_icmp_le (tgt := 102) C dX7_deliver_83 (by decide) h (fun h => ?_) (fun h => ?_)
    · skip
      refine hs_sub [0] rfl ?_
      exact t_X7_deliver_102 C hf   S_1 h
    · skip
      refine hs_aload_n C dX7_deliver_86 0 rfl rfl ?_
      refine gf_X7_89 C dX7_deliver_87 ?_
      refine hs_iconst (v := 0) C dX7_deliver_90 (by decide) ?_
      refine hs_ald (kd := 14) C (Or.inr rfl) rfl (show hs_K 127 = 14 by decide +kernel) h dX7_deliver_91 (fun h => ?_)
      refine hs_sipush (v := 228) C dX7_deliver_92 (by decide) ?_
      refine hs_icmp_ge (tgt := 102) C dX7_deliver_95 (by decide) h (fun h => ?_) (fun h => ?_)
      · skip
        refine hs_sub [0] rfl ?_
        exact t_X7_deliver_102 C hf   S_1 h
      · skip
        refine hs_iconst (v := 1) C dX7_deliver_98 (by decide) ?_
        refine hs_goto (tgt := 103) C dX7_deliver_99 (by decide) ?_
        refine hs_sub [0] rfl ?_
        exact t_X7_deliver_103 C hf  (1 : Int32) S_1 h
  · skip
    refine hs_aload_n C dX7_deliver_46 0 rfl rfl ?_
    refine gf_X7_89 C dX7_deliver_47 ?_
    refine hs_iload_n C dX7_deliver_50 2 rfl rfl ?_
    refine hs_aload_n C dX7_deliver_51 0 rfl rfl ?_
    refine gf_X7_50 C dX7_deliver_52 ?_
    refine hs_bipush (v := 20) C dX7_deliver_55 (by decide) ?_
    refine hs_iload_n C dX7_deliver_57 1 rfl rfl ?_
    refine hs_imul C dX7_deliver_58 ?_
    refine hs_iload_n C dX7_deliver_59 2 rfl rfl ?_
    refine hs_iadd C dX7_deliver_60 ?_
    refine hs_top h (fun x_3 h => ?_)
    refine hs_ald (kd := 14) C (Or.inr rfl) rfl (show hs_K 114 = 14 by decide +kernel) h dX7_deliver_61 (fun h => ?_)
    refine hs_ast (kd := 14) C (Or.inr rfl) rfl (show hs_K 127 = 14 by decide +kernel) h dX7_deliver_62 (fun S_4 h => ?_)
    refine hs_iinc' (1 : Int32) C dX7_deliver_63 2 rfl (by decide) (by decide) h (fun x_5 h => ?_)
    show hs_Z X _ _ [(2, .int x_5), (0, .ref (hs_q X 100)), (1, .int x1)] _ _
    refine hs_goto (tgt := 38) C dX7_deliver_66 (by decide) ?_
    refine hs_sub [1, 2, 0] rfl ?_
    exact hK38 x1 x_5 S_4 h
theorem t_X7_deliver_38l {X : hs_T} (C : hs_C X 1 RX7 cX7_deliver 6 3) {res : Int32 × hs_M} (hf : hs_FI X cX7_deliver res)  : ∀ (n : Nat) (x1 : Int32) (x2 : Int32) (S : hs_M), f_X7_deliver_38  n x1 x2 S = some res → hs_Z X 6 S [(0, .ref (hs_q X 100)), (1, .int x1), (2, .int x2)] [] 38 := by
  intro n
  induction n with
  | zero =>
    intro x1 x2 S h
    cases h
  | succ n ih =>
    intro x1 x2 S h
    exact t_X7_deliver_38 C hf  (f_X7_deliver_38  n) ih x1 x2 S h
set_option maxRecDepth 100000 in
set_option maxHeartbeats 4000000 in
theorem t_X7_deliver_14 {X : hs_T} (C : hs_C X 1 RX7 cX7_deliver 6 3) {res : Int32 × hs_M} (hf : hs_FI X cX7_deliver res) (x1 : Int32) (y1 : Int32) (S : hs_M) (h : f_X7_deliver_14 x1 y1 S = some res) : hs_Z X 6 S [(0, .ref (hs_q X 100)), (1, .int x1)] [.int y1, .ref (hs_q X 100)] 14 := by
  unfold f_X7_deliver_14 at h
  refine pf_X7_92 C h dX7_deliver_14 (fun S_1 h => ?_)
  refine hs_aload_n C dX7_deliver_17 0 rfl rfl ?_
  refine gf_X7_92 C dX7_deliver_18 ?_
  refine hs_if_eq (tgt := 26) C dX7_deliver_21 (by decide) h (fun h => ?_) (fun h => ?_)
  · skip
    refine hs_aload_n C dX7_deliver_26 0 rfl rfl ?_
    refine hs_aload_n C dX7_deliver_27 0 rfl rfl ?_
    refine gf_X7_47 C dX7_deliver_28 ?_
    refine hs_iload_n C dX7_deliver_31 1 rfl rfl ?_
    refine hs_ald (kd := 14) C (Or.inr rfl) rfl (show hs_K 113 = 14 by decide +kernel) h dX7_deliver_32 (fun h => ?_)
    refine pf_X7_121 C h dX7_deliver_33 (fun S_2 h => ?_)
    refine hs_iconst (v := 0) C dX7_deliver_36 (by decide) ?_
    refine hs_istore_n (lv' := [(2, .int (0 : Int32)), (0, .ref (hs_q X 100)), (1, .int x1)]) C dX7_deliver_37 rfl (by decide) rfl ?_
    refine hs_sub [1, 2, 0] rfl ?_
    exact t_X7_deliver_38l C hf  hs_fuel x1 (0 : Int32) S_2 h
  · skip
    refine hs_iconst (v := 0) C dX7_deliver_24 (by decide) ?_
    exact hs_ireti C hf h dX7_deliver_25
set_option maxRecDepth 100000 in
set_option maxHeartbeats 4000000 in
theorem t_X7_deliver_0 {X : hs_T} (C : hs_C X 1 RX7 cX7_deliver 6 3) {res : Int32 × hs_M} (hf : hs_FI X cX7_deliver res) (x1 : Int32) (S : hs_M) (h : f_X7_deliver_0 x1 S = some res) : hs_Z X 6 S [(0, .ref (hs_q X 100)), (1, .int x1)] [] 0 := by
  unfold f_X7_deliver_0 at h
  refine hs_aload_n C dX7_deliver_0 0 rfl rfl ?_
  refine hs_aload_n C dX7_deliver_1 0 rfl rfl ?_
  refine hs_iload_n C dX7_deliver_2 1 rfl rfl ?_
  obtain ⟨r_3, S_1, hc_2, h⟩ := hs_b2_s h
  refine cs_X7_157 C (m_X7_noPacket x1 S hc_2) (by decide) (Nat.le_of_ble_eq_true rfl) dX7_deliver_3 ?_
  refine hs_if_eq (tgt := 13) C dX7_deliver_6 (by decide) h (fun h => ?_) (fun h => ?_)
  · skip
    refine hs_iconst (v := 0) C dX7_deliver_13 (by decide) ?_
    exact t_X7_deliver_14 C hf  x1 (0 : Int32) S_1 h
  · skip
    refine hs_iconst (v := 1) C dX7_deliver_9 (by decide) ?_
    refine hs_goto (tgt := 14) C dX7_deliver_10 (by decide) ?_
    exact t_X7_deliver_14 C hf  x1 (1 : Int32) S_1 h
theorem m_X7_deliver (a1 : Int32) (S : hs_M) {r : Int32} {S' : hs_M} (h : f_X7_deliver a1 S = some (r, S')) : hs_met 1 yX7_deliver cX7_deliver 6 (some .int) 3 (fun q => [.ref (q 100), .int a1]) S (fun q => some (.int r)) S' :=
  hs_mkI (res := (r, S')) (by decide +kernel) (by decide) (fun q => Nat.le_of_ble_eq_true rfl) fun X C hf => (t_X7_deliver_0 C hf a1 S h)
set_option maxRecDepth 100000 in
set_option maxHeartbeats 4000000 in
theorem t_X7_write_269 {X : hs_T} (C : hs_C X 1 RX7 cX7_write 4 2) {res : hs_M} (hf : hs_FV X cX7_write res) (S : hs_M) (h : f_X7_write_269  S = some res) : hs_Z X 4 S [] [] 269 := by
  unfold f_X7_write_269 at h
  exact hs_vret C hf h dX7_write_269
set_option maxRecDepth 100000 in
set_option maxHeartbeats 4000000 in
theorem t_X7_write_132 {X : hs_T} (C : hs_C X 1 RX7 cX7_write 4 2) {res : hs_M} (hf : hs_FV X cX7_write res) (y1 : Int32) (y2 : Int32) (S : hs_M) (h : f_X7_write_132 y1 y2 S = some res) : hs_Z X 4 S [(0, .ref (hs_q X 100))] [.int y2, .int y1, .ref (hs_q X 100)] 132 := by
  unfold f_X7_write_132 at h
  refine hs_iadd C dX7_write_132 ?_
  obtain ⟨S_1, hc_2, h⟩ := hs_b1_s h
  refine cs_X7_124 C (m_X7_put (y1 + y2) S hc_2) (by decide) (Nat.le_of_ble_eq_true rfl) dX7_write_133 ?_
  refine hs_aload_n C dX7_write_136 0 rfl rfl ?_
  refine hs_aload_n C dX7_write_137 0 rfl rfl ?_
  refine hs_bipush (v := 8) C dX7_write_138 (by decide) ?_
  refine hs_bipush (v := 11) C dX7_write_140 (by decide) ?_
  obtain ⟨r_5, S_3, hc_4, h⟩ := hs_b2_s h
  refine cs_X7_128 C (m_X7_sum (8 : Int32) (11 : Int32) S_1 hc_4) (by decide) (Nat.le_of_ble_eq_true rfl) dX7_write_142 ?_
  obtain ⟨S_6, hc_7, h⟩ := hs_b1_s h
  refine cs_X7_124 C (m_X7_put r_5 S_3 hc_7) (by decide) (Nat.le_of_ble_eq_true rfl) dX7_write_145 ?_
  refine hs_goto (tgt := 269) C dX7_write_148 (by decide) ?_
  refine hs_sub [] rfl ?_
  exact t_X7_write_269 C hf   S_6 h
set_option maxRecDepth 100000 in
set_option maxHeartbeats 4000000 in
theorem t_X7_write_76 {X : hs_T} (C : hs_C X 1 RX7 cX7_write 4 2) {res : hs_M} (hf : hs_FV X cX7_write res) (y1 : Int32) (S : hs_M) (h : f_X7_write_76 y1 S = some res) : hs_Z X 4 S [(0, .ref (hs_q X 100))] [.int y1, .ref (hs_q X 100)] 76 := by
  unfold f_X7_write_76 at h
  refine hs_aload_n C dX7_write_76 0 rfl rfl ?_
  refine hs_bipush (v := 7) C dX7_write_77 (by decide) ?_
  refine hs_bipush (v := 11) C dX7_write_79 (by decide) ?_
  obtain ⟨r_3, S_1, hc_2, h⟩ := hs_b2_s h
  refine cs_X7_128 C (m_X7_sum (7 : Int32) (11 : Int32) S hc_2) (by decide) (Nat.le_of_ble_eq_true rfl) dX7_write_81 ?_
  refine hs_iadd C dX7_write_84 ?_
  obtain ⟨S_4, hc_5, h⟩ := hs_b1_s h
  refine cs_X7_124 C (m_X7_put (y1 + r_3) S_1 hc_5) (by decide) (Nat.le_of_ble_eq_true rfl) dX7_write_85 ?_
  refine hs_goto (tgt := 269) C dX7_write_88 (by decide) ?_
  refine hs_sub [] rfl ?_
  exact t_X7_write_269 C hf   S_4 h
set_option maxRecDepth 100000 in
set_option maxHeartbeats 4000000 in
theorem t_X7_write_18 {X : hs_T} (C : hs_C X 1 RX7 cX7_write 4 2) {res : hs_M} (hf : hs_FV X cX7_write res) (x1 : Int32) (x2 : Int32) (x3 : Int32) (S : hs_M) (h : f_X7_write_18 x1 x2 x3 S = some res) : hs_Z X 4 S [(0, .ref (hs_q X 100)), (1, .int x1), (2, .int x2), (3, .int x3)] [] 18 := by
  unfold f_X7_write_18 at h
  refine hs_iload_n C dX7_write_18 2 rfl rfl ?_
  refine hs_if_ne (tgt := 44) C dX7_write_19 (by decide) h (fun h => ?_) (fun h => ?_)
  · skip
    refine hs_iload_n C dX7_write_44 2 rfl rfl ?_
    refine hs_iconst (v := 1) C dX7_write_45 (by decide) ?_
    refine hs_icmp_ne (tgt := 91) C dX7_write_46 (by decide) h (fun h => ?_) (fun h => ?_)
    · skip
      refine hs_iload_n C dX7_write_91 2 rfl rfl ?_
      refine hs_iconst (v := 2) C dX7_write_92 (by decide) ?_
      refine hs_icmp_ne (tgt := 151) C dX7_write_93 (by decide) h (fun h => ?_) (fun h => ?_)
      · skip
        refine hs_iload_n C dX7_write_151 2 rfl rfl ?_
        refine hs_iconst (v := 3) C dX7_write_152 (by decide) ?_
        refine hs_icmp_ne (tgt := 172) C dX7_write_153 (by decide) h (fun h => ?_) (fun h => ?_)
        · skip
          refine hs_aload_n C dX7_write_172 0 rfl rfl ?_
          refine gf_X7_86 C dX7_write_173 ?_
          refine hs_bipush (v := 11) C dX7_write_176 (by decide) ?_
          refine hs_aload_n C dX7_write_178 0 rfl rfl ?_
          refine gf_X7_7 C dX7_write_179 ?_
          refine hs_iload_n C dX7_write_182 1 rfl rfl ?_
          refine hs_ald (kd := 14) C (Or.inr rfl) rfl (show hs_K 101 = 14 by decide +kernel) h dX7_write_183 (fun h => ?_)
          refine hs_sipush (v := 256) C dX7_write_184 (by decide) ?_
          refine hs_idiv C dX7_write_187 (by decide) ?_
          refine hs_ast (kd := 14) C (Or.inr rfl) rfl (show hs_K 126 = 14 by decide +kernel) h dX7_write_188 (fun S_1 h => ?_)
          refine hs_aload_n C dX7_write_189 0 rfl rfl ?_
          refine gf_X7_86 C dX7_write_190 ?_
          refine hs_bipush (v := 12) C dX7_write_193 (by decide) ?_
          refine hs_aload_n C dX7_write_195 0 rfl rfl ?_
          refine gf_X7_7 C dX7_write_196 ?_
          refine hs_iload_n C dX7_write_199 1 rfl rfl ?_
          refine hs_ald (kd := 14) C (Or.inr rfl) rfl (show hs_K 101 = 14 by decide +kernel) h dX7_write_200 (fun h => ?_)
          refine hs_sipush (v := 256) C dX7_write_201 (by decide) ?_
          refine hs_irem C dX7_write_204 (by decide) ?_
          refine hs_ast (kd := 14) C (Or.inr rfl) rfl (show hs_K 126 = 14 by decide +kernel) h dX7_write_205 (fun S_2 h => ?_)
          refine hs_aload_n C dX7_write_206 0 rfl rfl ?_
          refine hs_sipush (v := 253) C dX7_write_207 (by decide) ?_
          obtain ⟨S_3, hc_4, h⟩ := hs_b1_s h
          refine cs_X7_124 C (m_X7_put (253 : Int32) S_2 hc_4) (by decide) (Nat.le_of_ble_eq_true rfl) dX7_write_210 ?_
          refine hs_aload_n C dX7_write_213 0 rfl rfl ?_
          refine hs_aload_n C dX7_write_214 0 rfl rfl ?_
          refine gf_X7_86 C dX7_write_215 ?_
          refine hs_iconst (v := 0) C dX7_write_218 (by decide) ?_
          refine hs_ald (kd := 14) C (Or.inr rfl) rfl (show hs_K 126 = 14 by decide +kernel) h dX7_write_219 (fun h => ?_)
          obtain ⟨S_5, hc_6, h⟩ := hs_b1_s h
          refine cs_X7_124 C (m_X7_put (S_3 126 (0 : Int32).toNatClampNeg) S_3 hc_6) (by decide) (Nat.le_of_ble_eq_true rfl) dX7_write_220 ?_
          refine hs_aload_n C dX7_write_223 0 rfl rfl ?_
          refine hs_aload_n C dX7_write_224 0 rfl rfl ?_
          refine gf_X7_86 C dX7_write_225 ?_
          refine hs_iconst (v := 1) C dX7_write_228 (by decide) ?_
          refine hs_ald (kd := 14) C (Or.inr rfl) rfl (show hs_K 126 = 14 by decide +kernel) h dX7_write_229 (fun h => ?_)
          obtain ⟨S_7, hc_8, h⟩ := hs_b1_s h
          refine cs_X7_124 C (m_X7_put (S_5 126 (1 : Int32).toNatClampNeg) S_5 hc_8) (by decide) (Nat.le_of_ble_eq_true rfl) dX7_write_230 ?_
          refine hs_aload_n C dX7_write_233 0 rfl rfl ?_
          refine hs_aload_n C dX7_write_234 0 rfl rfl ?_
          refine gf_X7_107 C dX7_write_235 ?_
          obtain ⟨S_9, hc_10, h⟩ := hs_b1_s h
          refine cs_X7_124 C (m_X7_put (S_7 100 2) S_7 hc_10) (by decide) (Nat.le_of_ble_eq_true rfl) dX7_write_238 ?_
          refine hs_aload_n C dX7_write_241 0 rfl rfl ?_
          refine hs_aload_n C dX7_write_242 0 rfl rfl ?_
          refine gf_X7_86 C dX7_write_243 ?_
          refine hs_bipush (v := 11) C dX7_write_246 (by decide) ?_
          refine hs_ald (kd := 14) C (Or.inr rfl) rfl (show hs_K 126 = 14 by decide +kernel) h dX7_write_248 (fun h => ?_)
          obtain ⟨S_11, hc_12, h⟩ := hs_b1_s h
          refine cs_X7_124 C (m_X7_put (S_9 126 (11 : Int32).toNatClampNeg) S_9 hc_12) (by decide) (Nat.le_of_ble_eq_true rfl) dX7_write_249 ?_
          refine hs_aload_n C dX7_write_252 0 rfl rfl ?_
          refine hs_aload_n C dX7_write_253 0 rfl rfl ?_
          refine gf_X7_86 C dX7_write_254 ?_
          refine hs_bipush (v := 12) C dX7_write_257 (by decide) ?_
          refine hs_ald (kd := 14) C (Or.inr rfl) rfl (show hs_K 126 = 14 by decide +kernel) h dX7_write_259 (fun h => ?_)
          obtain ⟨S_13, hc_14, h⟩ := hs_b1_s h
          refine cs_X7_124 C (m_X7_put (S_11 126 (12 : Int32).toNatClampNeg) S_11 hc_14) (by decide) (Nat.le_of_ble_eq_true rfl) dX7_write_260 ?_
          refine hs_aload_n C dX7_write_263 0 rfl rfl ?_
          refine hs_bipush (v := 13) C dX7_write_264 (by decide) ?_
          obtain ⟨S_15, hc_16, h⟩ := hs_b1_s h
          refine cs_X7_132 C (m_X7_putRest (13 : Int32) S_13 hc_16) (by decide) (Nat.le_of_ble_eq_true rfl) dX7_write_266 ?_
          refine hs_sub [] rfl ?_
          exact t_X7_write_269 C hf   S_15 h
        · skip
          refine hs_aload_n C dX7_write_156 0 rfl rfl ?_
          refine hs_sipush (v := 248) C dX7_write_157 (by decide) ?_
          obtain ⟨S_17, hc_18, h⟩ := hs_b1_s h
          refine cs_X7_124 C (m_X7_put (248 : Int32) S hc_18) (by decide) (Nat.le_of_ble_eq_true rfl) dX7_write_160 ?_
          refine hs_aload_n C dX7_write_163 0 rfl rfl ?_
          refine hs_bipush (v := 11) C dX7_write_164 (by decide) ?_
          obtain ⟨S_19, hc_20, h⟩ := hs_b1_s h
          refine cs_X7_132 C (m_X7_putRest (11 : Int32) S_17 hc_20) (by decide) (Nat.le_of_ble_eq_true rfl) dX7_write_166 ?_
          refine hs_goto (tgt := 269) C dX7_write_169 (by decide) ?_
          refine hs_sub [] rfl ?_
          exact t_X7_write_269 C hf   S_19 h
      · skip
        refine hs_aload_n C dX7_write_96 0 rfl rfl ?_
        refine hs_sipush (v := 192) C dX7_write_97 (by decide) ?_
        refine hs_iload_n C dX7_write_100 3 rfl rfl ?_
        refine hs_sipush (v := 1024) C dX7_write_101 (by decide) ?_
        refine hs_irem C dX7_write_104 (by decide) ?_
        refine hs_bipush (v := 32) C dX7_write_105 (by decide) ?_
        refine hs_idiv C dX7_write_107 (by decide) ?_
        refine hs_iadd C dX7_write_108 ?_
        obtain ⟨S_21, hc_22, h⟩ := hs_b1_s h
        refine cs_X7_124 C (m_X7_put ((192 : Int32) + ((hs_rem x3 (1024 : Int32)) / (32 : Int32))) S hc_22) (by decide) (Nat.le_of_ble_eq_true rfl) dX7_write_109 ?_
        refine hs_aload_n C dX7_write_112 0 rfl rfl ?_
        refine hs_iload_n C dX7_write_113 3 rfl rfl ?_
        refine hs_bipush (v := 32) C dX7_write_114 (by decide) ?_
        refine hs_irem C dX7_write_116 (by decide) ?_
        refine hs_bipush (v := 8) C dX7_write_117 (by decide) ?_
        refine hs_imul C dX7_write_119 ?_
        refine hs_aload_n C dX7_write_120 0 rfl rfl ?_
        refine gf_X7_110 C dX7_write_121 ?_
        refine hs_if_eq (tgt := 131) C dX7_write_124 (by decide) h (fun h => ?_) (fun h => ?_)
        · skip
          refine hs_iconst (v := 0) C dX7_write_131 (by decide) ?_
          refine hs_sub [0] rfl ?_
          exact t_X7_write_132 C hf  ((hs_rem x3 (32 : Int32)) * (8 : Int32)) (0 : Int32) S_21 h
        · skip
          refine hs_iconst (v := 4) C dX7_write_127 (by decide) ?_
          refine hs_goto (tgt := 132) C dX7_write_128 (by decide) ?_
          refine hs_sub [0] rfl ?_
          exact t_X7_write_132 C hf  ((hs_rem x3 (32 : Int32)) * (8 : Int32)) (4 : Int32) S_21 h
    · skip
      refine hs_aload_n C dX7_write_49 0 rfl rfl ?_
      refine hs_sipush (v := 128) C dX7_write_50 (by decide) ?_
      refine hs_iload_n C dX7_write_53 3 rfl rfl ?_
      refine hs_bipush (v := 64) C dX7_write_54 (by decide) ?_
      refine hs_irem C dX7_write_56 (by decide) ?_
      refine hs_iadd C dX7_write_57 ?_
      obtain ⟨S_23, hc_24, h⟩ := hs_b1_s h
      refine cs_X7_124 C (m_X7_put ((128 : Int32) + (hs_rem x3 (64 : Int32))) S hc_24) (by decide) (Nat.le_of_ble_eq_true rfl) dX7_write_58 ?_
      refine hs_aload_n C dX7_write_61 0 rfl rfl ?_
      refine hs_aload_n C dX7_write_62 0 rfl rfl ?_
      refine gf_X7_110 C dX7_write_63 ?_
      refine hs_if_eq (tgt := 75) C dX7_write_66 (by decide) h (fun h => ?_) (fun h => ?_)
      · skip
        refine hs_iconst (v := 0) C dX7_write_75 (by decide) ?_
        refine hs_sub [0] rfl ?_
        exact t_X7_write_76 C hf  (0 : Int32) S_23 h
      · skip
        refine hs_sipush (v := 128) C dX7_write_69 (by decide) ?_
        refine hs_goto (tgt := 76) C dX7_write_72 (by decide) ?_
        refine hs_sub [0] rfl ?_
        exact t_X7_write_76 C hf  (128 : Int32) S_23 h
  · skip
    refine hs_aload_n C dX7_write_22 0 rfl rfl ?_
    refine hs_iload_n C dX7_write_23 3 rfl rfl ?_
    refine hs_bipush (v := 16) C dX7_write_24 (by decide) ?_
    refine hs_irem C dX7_write_26 (by decide) ?_
    refine hs_bipush (v := 8) C dX7_write_27 (by decide) ?_
    refine hs_imul C dX7_write_29 ?_
    refine hs_aload_n C dX7_write_30 0 rfl rfl ?_
    refine hs_iconst (v := 3) C dX7_write_31 (by decide) ?_
    refine hs_bipush (v := 11) C dX7_write_32 (by decide) ?_
    obtain ⟨r_27, S_25, hc_26, h⟩ := hs_b2_s h
    refine cs_X7_128 C (m_X7_sum (3 : Int32) (11 : Int32) S hc_26) (by decide) (Nat.le_of_ble_eq_true rfl) dX7_write_34 ?_
    refine hs_iadd C dX7_write_37 ?_
    obtain ⟨S_28, hc_29, h⟩ := hs_b1_s h
    refine cs_X7_124 C (m_X7_put (((hs_rem x3 (16 : Int32)) * (8 : Int32)) + r_27) S_25 hc_29) (by decide) (Nat.le_of_ble_eq_true rfl) dX7_write_38 ?_
    refine hs_goto (tgt := 269) C dX7_write_41 (by decide) ?_
    refine hs_sub [] rfl ?_
    exact t_X7_write_269 C hf   S_28 h
set_option maxRecDepth 100000 in
set_option maxHeartbeats 4000000 in
theorem t_X7_write_0 {X : hs_T} (C : hs_C X 1 RX7 cX7_write 4 2) {res : hs_M} (hf : hs_FV X cX7_write res) (x1 : Int32) (x2 : Int32) (x3 : Int32) (S : hs_M) (h : f_X7_write_0 x1 x2 x3 S = some res) : hs_Z X 4 S [(0, .ref (hs_q X 100)), (1, .int x1), (2, .int x2), (3, .int x3)] [] 0 := by
  unfold f_X7_write_0 at h
  refine hs_aload_n C dX7_write_0 0 rfl rfl ?_
  refine hs_iconst (v := 0) C dX7_write_1 (by decide) ?_
  refine pf_X7_121 C h dX7_write_2 (fun S_1 h => ?_)
  refine hs_iload_n C dX7_write_5 1 rfl rfl ?_
  refine hs_if_le (tgt := 18) C dX7_write_6 (by decide) h (fun h => ?_) (fun h => ?_)
  · skip
    exact t_X7_write_18 C hf  x1 x2 x3 S_1 h
  · skip
    refine hs_aload_n C dX7_write_9 0 rfl rfl ?_
    refine hs_sipush (v := 224) C dX7_write_10 (by decide) ?_
    refine hs_iload_n C dX7_write_13 1 rfl rfl ?_
    refine hs_iadd C dX7_write_14 ?_
    obtain ⟨S_2, hc_3, h⟩ := hs_b1_s h
    refine cs_X7_124 C (m_X7_put ((224 : Int32) + x1) S_1 hc_3) (by decide) (Nat.le_of_ble_eq_true rfl) dX7_write_15 ?_
    exact t_X7_write_18 C hf  x1 x2 x3 S_2 h
theorem m_X7_write (a1 : Int32) (a2 : Int32) (a3 : Int32) (S : hs_M) {S' : hs_M} (h : f_X7_write a1 a2 a3 S = some S') : hs_met 1 yX7_write cX7_write 4 none 2 (fun q => [.ref (q 100), .int a1, .int a2, .int a3]) S (fun q => none) S' :=
  hs_mkV (res := S') (by decide +kernel) (by decide) (fun q => Nat.le_of_ble_eq_true rfl) fun X C hf => (t_X7_write_0 C hf a1 a2 a3 S h)
set_option maxRecDepth 100000 in
set_option maxHeartbeats 4000000 in
theorem t_X7_send_444 {X : hs_T} (C : hs_C X 1 RX7 cX7_send 11 3) {res : Int32 × hs_M} (hf : hs_FI X cX7_send res) (K444 : Int32 → Int32 → hs_M → Option (Int32 × hs_M)) (hK444 : ∀ (x9 : Int32) (x10 : Int32) (S : hs_M), K444 x9 x10 S = some res → hs_Z X 11 S [(0, .ref (hs_q X 100)), (9, .int x9), (10, .int x10)] [] 444) (x9 : Int32) (x10 : Int32) (S : hs_M) (h : fb_X7_send_444 K444 x9 x10 S = some res) : hs_Z X 11 S [(0, .ref (hs_q X 100)), (9, .int x9), (10, .int x10)] [] 444 := by
  unfold fb_X7_send_444 at h
  refine hs_iload C dX7_send_444 2 rfl ?_
  refine hs_aload_n C dX7_send_446 0 rfl rfl ?_
  refine gf_X7_121 C dX7_send_447 ?_
  refine hs_icmp_ge (tgt := 481) C dX7_send_450 (by decide) h (fun h => ?_) (fun h => ?_)
  · skip
    refine hs_aload_n C dX7_send_481 0 rfl rfl ?_
    refine hs_dup C dX7_send_482 rfl ?_
    refine gf_X7_154 C dX7_send_483 ?_
    refine hs_iconst (v := 1) C dX7_send_486 (by decide) ?_
    refine hs_iadd C dX7_send_487 ?_
    refine pf_X7_154 C h dX7_send_488 (fun S_1 h => ?_)
    refine hs_iload C dX7_send_491 1 rfl ?_
    exact hs_ireti C hf h dX7_send_493
  · skip
    refine hs_aload_n C dX7_send_453 0 rfl rfl ?_
    refine gf_X7_50 C dX7_send_454 ?_
    refine hs_bipush (v := 20) C dX7_send_457 (by decide) ?_
    refine hs_aload_n C dX7_send_459 0 rfl rfl ?_
    refine gf_X7_154 C dX7_send_460 ?_
    refine hs_imul C dX7_send_463 ?_
    refine hs_iload C dX7_send_464 2 rfl ?_
    refine hs_iadd C dX7_send_466 ?_
    refine hs_aload_n C dX7_send_467 0 rfl rfl ?_
    refine gf_X7_89 C dX7_send_468 ?_
    refine hs_iload C dX7_send_471 2 rfl ?_
    refine hs_ald (kd := 14) C (Or.inr rfl) rfl (show hs_K 127 = 14 by decide +kernel) h dX7_send_473 (fun h => ?_)
    refine hs_ast (kd := 14) C (Or.inr rfl) rfl (show hs_K 114 = 14 by decide +kernel) h dX7_send_474 (fun S_2 h => ?_)
    refine hs_iinc' (1 : Int32) C dX7_send_475 2 rfl (by decide) (by decide) h (fun x_3 h => ?_)
    show hs_Z X _ _ [(10, .int x_3), (0, .ref (hs_q X 100)), (9, .int x9)] _ _
    refine hs_goto (tgt := 444) C dX7_send_478 (by decide) ?_
    refine hs_sub [1, 2, 0] rfl ?_
    exact hK444 x9 x_3 S_2 h
theorem t_X7_send_444l {X : hs_T} (C : hs_C X 1 RX7 cX7_send 11 3) {res : Int32 × hs_M} (hf : hs_FI X cX7_send res)  : ∀ (n : Nat) (x9 : Int32) (x10 : Int32) (S : hs_M), f_X7_send_444  n x9 x10 S = some res → hs_Z X 11 S [(0, .ref (hs_q X 100)), (9, .int x9), (10, .int x10)] [] 444 := by
  intro n
  induction n with
  | zero =>
    intro x9 x10 S h
    cases h
  | succ n ih =>
    intro x9 x10 S h
    exact t_X7_send_444 C hf  (f_X7_send_444  n) ih x9 x10 S h
set_option maxRecDepth 100000 in
set_option maxHeartbeats 4000000 in
theorem t_X7_send_407 {X : hs_T} (C : hs_C X 1 RX7 cX7_send 11 3) {res : Int32 × hs_M} (hf : hs_FI X cX7_send res) (x1 : Int32) (x2 : Int32) (x9 : Int32) (S : hs_M) (h : f_X7_send_407 x1 x2 x9 S = some res) : hs_Z X 11 S [(0, .ref (hs_q X 100)), (1, .int x1), (2, .int x2), (9, .int x9)] [] 407 := by
  unfold f_X7_send_407 at h
  refine hs_aload_n C dX7_send_407 0 rfl rfl ?_
  refine hs_iload_n C dX7_send_408 1 rfl rfl ?_
  refine hs_iload_n C dX7_send_409 2 rfl rfl ?_
  obtain ⟨S_1, hc_2, h⟩ := hs_b1_s h
  refine cs_X7_150 C (m_X7_note x1 x2 S hc_2) (by decide) (Nat.le_of_ble_eq_true rfl) dX7_send_410 ?_
  refine hs_aload_n C dX7_send_413 0 rfl rfl ?_
  refine gf_X7_154 C dX7_send_414 ?_
  refine hs_bipush (v := 8) C dX7_send_417 (by decide) ?_
  refine hs_icmp_ne (tgt := 428) C dX7_send_419 (by decide) h (fun h => ?_) (fun h => ?_)
  · skip
    refine hs_aload_n C dX7_send_428 0 rfl rfl ?_
    refine gf_X7_47 C dX7_send_429 ?_
    refine hs_aload_n C dX7_send_432 0 rfl rfl ?_
    refine gf_X7_154 C dX7_send_433 ?_
    refine hs_aload_n C dX7_send_436 0 rfl rfl ?_
    refine gf_X7_121 C dX7_send_437 ?_
    refine hs_ast (kd := 14) C (Or.inr rfl) rfl (show hs_K 113 = 14 by decide +kernel) h dX7_send_440 (fun S_3 h => ?_)
    refine hs_iconst (v := 0) C dX7_send_441 (by decide) ?_
    refine hs_istore (lv' := [(10, .int (0 : Int32)), (0, .ref (hs_q X 100)), (1, .int x1), (2, .int x2), (9, .int x9)]) C dX7_send_442 (by decide) rfl ?_
    refine hs_sub [1, 4, 0] rfl ?_
    exact t_X7_send_444l C hf  hs_fuel x9 (0 : Int32) S_3 h
  · skip
    refine hs_iload C dX7_send_422 3 rfl ?_
    refine hs_bipush (v := 8) C dX7_send_424 (by decide) ?_
    refine hs_iadd C dX7_send_426 ?_
    exact hs_ireti C hf h dX7_send_427
set_option maxRecDepth 100000 in
set_option maxHeartbeats 4000000 in
theorem t_X7_send_362 {X : hs_T} (C : hs_C X 1 RX7 cX7_send 11 3) {res : Int32 × hs_M} (hf : hs_FI X cX7_send res) (x1 : Int32) (x2 : Int32) (x9 : Int32) (y1 : Int32) (y2 : Int32) (S : hs_M) (h : f_X7_send_362 x1 x2 x9 y1 y2 S = some res) : hs_Z X 11 S [(0, .ref (hs_q X 100)), (1, .int x1), (2, .int x2), (9, .int x9)] [.int y2, .int y1, .ref (hs_q X 110)] 362 := by
  unfold f_X7_send_362 at h
  refine hs_ast (kd := 14) C (Or.inr rfl) rfl (show hs_K 110 = 14 by decide +kernel) h dX7_send_362 (fun S_1 h => ?_)
  refine hs_aload_n C dX7_send_363 0 rfl rfl ?_
  refine gf_X7_35 C dX7_send_364 ?_
  refine hs_iload_n C dX7_send_367 1 rfl rfl ?_
  refine hs_dup2 C dX7_send_368 rfl rfl ?_
  refine hs_ald (kd := 14) C (Or.inr rfl) rfl (show hs_K 109 = 14 by decide +kernel) h dX7_send_369 (fun h => ?_)
  refine hs_iconst (v := 1) C dX7_send_370 (by decide) ?_
  refine hs_iadd C dX7_send_371 ?_
  refine hs_ast (kd := 14) C (Or.inr rfl) rfl (show hs_K 109 = 14 by decide +kernel) h dX7_send_372 (fun S_2 h => ?_)
  refine hs_aload_n C dX7_send_373 0 rfl rfl ?_
  refine gf_X7_32 C dX7_send_374 ?_
  refine hs_iload_n C dX7_send_377 1 rfl rfl ?_
  refine hs_ald (kd := 14) C (Or.inr rfl) rfl (show hs_K 108 = 14 by decide +kernel) h dX7_send_378 (fun h => ?_)
  refine hs_iconst (v := 2) C dX7_send_379 (by decide) ?_
  refine hs_icmp_ge (tgt := 407) C dX7_send_380 (by decide) h (fun h => ?_) (fun h => ?_)
  · skip
    exact t_X7_send_407 C hf  x1 x2 x9 S_2 h
  · skip
    refine hs_aload_n C dX7_send_383 0 rfl rfl ?_
    refine gf_X7_35 C dX7_send_384 ?_
    refine hs_iload_n C dX7_send_387 1 rfl rfl ?_
    refine hs_ald (kd := 14) C (Or.inr rfl) rfl (show hs_K 109 = 14 by decide +kernel) h dX7_send_388 (fun h => ?_)
    refine hs_iconst (v := 3) C dX7_send_389 (by decide) ?_
    refine hs_icmp_ne (tgt := 407) C dX7_send_390 (by decide) h (fun h => ?_) (fun h => ?_)
    · skip
      exact t_X7_send_407 C hf  x1 x2 x9 S_2 h
    · skip
      refine hs_aload_n C dX7_send_393 0 rfl rfl ?_
      refine gf_X7_32 C dX7_send_394 ?_
      refine hs_iload_n C dX7_send_397 1 rfl rfl ?_
      refine hs_iconst (v := 2) C dX7_send_398 (by decide) ?_
      refine hs_ast (kd := 14) C (Or.inr rfl) rfl (show hs_K 108 = 14 by decide +kernel) h dX7_send_399 (fun S_3 h => ?_)
      refine hs_aload_n C dX7_send_400 0 rfl rfl ?_
      refine gf_X7_35 C dX7_send_401 ?_
      refine hs_iload_n C dX7_send_404 1 rfl rfl ?_
      refine hs_iconst (v := 0) C dX7_send_405 (by decide) ?_
      refine hs_ast (kd := 14) C (Or.inr rfl) rfl (show hs_K 109 = 14 by decide +kernel) h dX7_send_406 (fun S_4 h => ?_)
      exact t_X7_send_407 C hf  x1 x2 x9 S_4 h
set_option maxRecDepth 100000 in
set_option maxHeartbeats 4000000 in
theorem t_X7_send_224 {X : hs_T} (C : hs_C X 1 RX7 cX7_send 11 3) {res : Int32 × hs_M} (hf : hs_FI X cX7_send res) (x1 : Int32) (x2 : Int32) (x3 : Int32) (x4 : Int32) (x5 : Int32) (x6 : Int32) (S : hs_M) (h : f_X7_send_224 x1 x2 x3 x4 x5 x6 S = some res) : hs_Z X 11 S [(0, .ref (hs_q X 100)), (1, .int x1), (2, .int x2), (3, .int x3), (4, .int x4), (5, .int x5), (6, .int x6)] [] 224 := by
  unfold f_X7_send_224 at h
  refine hs_aload_n C dX7_send_224 0 rfl rfl ?_
  refine gf_X7_13 C dX7_send_225 ?_
  refine hs_iload_n C dX7_send_228 1 rfl rfl ?_
  refine hs_iconst (v := 1) C dX7_send_229 (by decide) ?_
  refine hs_zst C rfl (show hs_K 102 = 15 by decide +kernel) h dX7_send_230 (fun S_1 h => ?_)
  refine hs_aload_n C dX7_send_231 0 rfl rfl ?_
  refine gf_X7_17 C dX7_send_232 ?_
  refine hs_iload_n C dX7_send_235 1 rfl rfl ?_
  refine hs_aload_n C dX7_send_236 0 rfl rfl ?_
  refine gf_X7_104 C dX7_send_237 ?_
  refine hs_ast (kd := 14) C (Or.inr rfl) rfl (show hs_K 103 = 14 by decide +kernel) h dX7_send_240 (fun S_2 h => ?_)
  refine hs_aload_n C dX7_send_241 0 rfl rfl ?_
  refine gf_X7_20 C dX7_send_242 ?_
  refine hs_iload_n C dX7_send_245 1 rfl rfl ?_
  refine hs_aload_n C dX7_send_246 0 rfl rfl ?_
  refine gf_X7_107 C dX7_send_247 ?_
  refine hs_ast (kd := 14) C (Or.inr rfl) rfl (show hs_K 104 = 14 by decide +kernel) h dX7_send_250 (fun S_3 h => ?_)
  refine hs_aload_n C dX7_send_251 0 rfl rfl ?_
  refine gf_X7_23 C dX7_send_252 ?_
  refine hs_iload_n C dX7_send_255 1 rfl rfl ?_
  refine hs_aload_n C dX7_send_256 0 rfl rfl ?_
  refine gf_X7_7 C dX7_send_257 ?_
  refine hs_iload_n C dX7_send_260 1 rfl rfl ?_
  refine hs_ald (kd := 14) C (Or.inr rfl) rfl (show hs_K 101 = 14 by decide +kernel) h dX7_send_261 (fun h => ?_)
  refine hs_ast (kd := 14) C (Or.inr rfl) rfl (show hs_K 105 = 14 by decide +kernel) h dX7_send_262 (fun S_4 h => ?_)
  refine hs_aload_n C dX7_send_263 0 rfl rfl ?_
  refine gf_X7_26 C dX7_send_264 ?_
  refine hs_iload_n C dX7_send_267 1 rfl rfl ?_
  refine hs_iload C dX7_send_268 5 rfl ?_
  refine hs_ast (kd := 14) C (Or.inr rfl) rfl (show hs_K 106 = 14 by decide +kernel) h dX7_send_270 (fun S_5 h => ?_)
  refine hs_aload_n C dX7_send_271 0 rfl rfl ?_
  refine gf_X7_29 C dX7_send_272 ?_
  refine hs_iload_n C dX7_send_275 1 rfl rfl ?_
  refine hs_iload C dX7_send_276 6 rfl ?_
  refine hs_ast (kd := 14) C (Or.inr rfl) rfl (show hs_K 107 = 14 by decide +kernel) h dX7_send_278 (fun S_6 h => ?_)
  refine hs_aload_n C dX7_send_279 0 rfl rfl ?_
  refine hs_iload_n C dX7_send_280 1 rfl rfl ?_
  refine hs_iload_n C dX7_send_281 2 rfl rfl ?_
  obtain ⟨r_9, S_7, hc_8, h⟩ := hs_b2_s h
  refine cs_X7_139 C (m_X7_choose x1 x2 S_6 hc_8) (by decide) (Nat.le_of_ble_eq_true rfl) dX7_send_282 ?_
  refine hs_istore (lv' := [(9, .int r_9), (0, .ref (hs_q X 100)), (1, .int x1), (2, .int x2), (3, .int x3), (4, .int x4), (5, .int x5), (6, .int x6)]) C dX7_send_285 (by decide) rfl ?_
  refine hs_aload_n C dX7_send_287 1 rfl rfl ?_
  refine hs_aload_n C dX7_send_288 1 rfl rfl ?_
  refine gf_X7_104 C dX7_send_289 ?_
  refine hs_aload_n C dX7_send_292 1 rfl rfl ?_
  refine gf_X7_107 C dX7_send_293 ?_
  refine hs_aload_n C dX7_send_296 1 rfl rfl ?_
  refine gf_X7_110 C dX7_send_297 ?_
  refine hs_iload_n C dX7_send_300 3 rfl rfl ?_
  refine hs_iload_n C dX7_send_301 4 rfl rfl ?_
  refine hs_iload C dX7_send_302 5 rfl ?_
  obtain ⟨S_10, hc_11, h⟩ := hs_b1_s h
  refine cs_X7_142 C (m_X7_fill (S_7 100 1) (S_7 100 2) (S_7 100 3) x2 x3 x4 S_7 hc_11) (by decide) (Nat.le_of_ble_eq_true rfl) dX7_send_304 ?_
  refine hs_aload_n C dX7_send_307 1 rfl rfl ?_
  refine hs_iload_n C dX7_send_308 2 rfl rfl ?_
  refine hs_iload C dX7_send_309 0 rfl ?_
  refine hs_iload_n C dX7_send_311 3 rfl rfl ?_
  obtain ⟨S_12, hc_13, h⟩ := hs_b1_s h
  refine cs_X7_146 C (m_X7_write x1 r_9 x2 S_10 hc_13) (by decide) (Nat.le_of_ble_eq_true rfl) dX7_send_312 ?_
  refine hs_aload_n C dX7_send_315 1 rfl rfl ?_
  refine gf_X7_83 C dX7_send_316 ?_
  refine hs_iload C dX7_send_319 0 rfl ?_
  refine hs_dup2 C dX7_send_321 rfl rfl ?_
  refine hs_ald (kd := 14) C (Or.inr rfl) rfl (show hs_K 125 = 14 by decide +kernel) h dX7_send_322 (fun h => ?_)
  refine hs_iconst (v := 1) C dX7_send_323 (by decide) ?_
  refine hs_iadd C dX7_send_324 ?_
  refine hs_ast (kd := 14) C (Or.inr rfl) rfl (show hs_K 125 = 14 by decide +kernel) h dX7_send_325 (fun S_14 h => ?_)
  refine hs_aload_n C dX7_send_326 1 rfl rfl ?_
  refine gf_X7_83 C dX7_send_327 ?_
  refine hs_iconst (v := 5) C dX7_send_330 (by decide) ?_
  refine hs_dup2 C dX7_send_331 rfl rfl ?_
  refine hs_ald (kd := 14) C (Or.inr rfl) rfl (show hs_K 125 = 14 by decide +kernel) h dX7_send_332 (fun h => ?_)
  refine hs_aload_n C dX7_send_333 1 rfl rfl ?_
  refine gf_X7_121 C dX7_send_334 ?_
  refine hs_iadd C dX7_send_337 ?_
  refine hs_ast (kd := 14) C (Or.inr rfl) rfl (show hs_K 125 = 14 by decide +kernel) h dX7_send_338 (fun S_15 h => ?_)
  refine hs_aload_n C dX7_send_339 1 rfl rfl ?_
  refine gf_X7_38 C dX7_send_340 ?_
  refine hs_iload_n C dX7_send_343 2 rfl rfl ?_
  refine hs_iload C dX7_send_344 0 rfl ?_
  refine hs_iconst (v := 4) C dX7_send_346 (by decide) ?_
  refine hs_icmp_ne (tgt := 354) C dX7_send_347 (by decide) h (fun h => ?_) (fun h => ?_)
  · skip
    refine hs_aload_n C dX7_send_354 1 rfl rfl ?_
    refine gf_X7_38 C dX7_send_355 ?_
    refine hs_iload_n C dX7_send_358 2 rfl rfl ?_
    refine hs_ald (kd := 14) C (Or.inr rfl) rfl (show hs_K 110 = 14 by decide +kernel) h dX7_send_359 (fun h => ?_)
    refine hs_iconst (v := 1) C dX7_send_360 (by decide) ?_
    refine hs_iadd C dX7_send_361 ?_
    refine hs_sub [1, 2, 3, 0] rfl ?_
    exact t_X7_send_362 C hf  x1 x2 r_9 x1 ((S_15 110 x1.toNatClampNeg) + (1 : Int32)) S_15 h
  · skip
    refine hs_iconst (v := 0) C dX7_send_350 (by decide) ?_
    refine hs_goto (tgt := 362) C dX7_send_351 (by decide) ?_
    refine hs_sub [1, 2, 3, 0] rfl ?_
    exact t_X7_send_362 C hf  x1 x2 r_9 x1 (0 : Int32) S_15 h
set_option maxRecDepth 100000 in
set_option maxHeartbeats 4000000 in
theorem t_X7_send_216 {X : hs_T} (C : hs_C X 1 RX7 cX7_send 11 3) {res : Int32 × hs_M} (hf : hs_FI X cX7_send res) (x1 : Int32) (x2 : Int32) (x3 : Int32) (x4 : Int32) (x5 : Int32) (x6 : Int32) (y1 : Int32) (y2 : Int32) (S : hs_M) (h : f_X7_send_216 x1 x2 x3 x4 x5 x6 y1 y2 S = some res) : hs_Z X 11 S [(0, .ref (hs_q X 100)), (1, .int x1), (2, .int x2), (3, .int x3), (4, .int x4), (5, .int x5), (6, .int x6)] [.int y2, .int y1, .ref (hs_q X 108)] 216 := by
  unfold f_X7_send_216 at h
  refine hs_ast (kd := 14) C (Or.inr rfl) rfl (show hs_K 108 = 14 by decide +kernel) h dX7_send_216 (fun S_1 h => ?_)
  refine hs_aload_n C dX7_send_217 0 rfl rfl ?_
  refine gf_X7_35 C dX7_send_218 ?_
  refine hs_iload_n C dX7_send_221 1 rfl rfl ?_
  refine hs_iconst (v := 0) C dX7_send_222 (by decide) ?_
  refine hs_ast (kd := 14) C (Or.inr rfl) rfl (show hs_K 109 = 14 by decide +kernel) h dX7_send_223 (fun S_2 h => ?_)
  exact t_X7_send_224 C hf  x1 x2 x3 x4 x5 x6 S_2 h
set_option maxRecDepth 100000 in
set_option maxHeartbeats 4000000 in
theorem t_X7_send_175 {X : hs_T} (C : hs_C X 1 RX7 cX7_send 11 3) {res : Int32 × hs_M} (hf : hs_FI X cX7_send res) (x1 : Int32) (x2 : Int32) (x3 : Int32) (x4 : Int32) (x5 : Int32) (x6 : Int32) (S : hs_M) (h : f_X7_send_175 x1 x2 x3 x4 x5 x6 S = some res) : hs_Z X 11 S [(0, .ref (hs_q X 100)), (1, .int x1), (2, .int x2), (3, .int x3), (4, .int x4), (5, .int x5), (6, .int x6)] [] 175 := by
  unfold f_X7_send_175 at h
  refine hs_aload_n C dX7_send_175 0 rfl rfl ?_
  refine gf_X7_32 C dX7_send_176 ?_
  refine hs_iload_n C dX7_send_179 1 rfl rfl ?_
  refine hs_iconst (v := 0) C dX7_send_180 (by decide) ?_
  refine hs_ast (kd := 14) C (Or.inr rfl) rfl (show hs_K 108 = 14 by decide +kernel) h dX7_send_181 (fun S_1 h => ?_)
  refine hs_aload_n C dX7_send_182 0 rfl rfl ?_
  refine gf_X7_35 C dX7_send_183 ?_
  refine hs_iload_n C dX7_send_186 1 rfl rfl ?_
  refine hs_iconst (v := 0) C dX7_send_187 (by decide) ?_
  refine hs_ast (kd := 14) C (Or.inr rfl) rfl (show hs_K 109 = 14 by decide +kernel) h dX7_send_188 (fun S_2 h => ?_)
  refine hs_goto (tgt := 224) C dX7_send_189 (by decide) ?_
  exact t_X7_send_224 C hf  x1 x2 x3 x4 x5 x6 S_2 h
set_option maxRecDepth 100000 in
set_option maxHeartbeats 4000000 in
theorem t_X7_send_157 {X : hs_T} (C : hs_C X 1 RX7 cX7_send 11 3) {res : Int32 × hs_M} (hf : hs_FI X cX7_send res) (x1 : Int32) (x2 : Int32) (x3 : Int32) (x4 : Int32) (x5 : Int32) (x6 : Int32) (x7 : Int32) (y0 : Int32) (S : hs_M) (h : f_X7_send_157 x1 x2 x3 x4 x5 x6 x7 y0 S = some res) : hs_Z X 11 S [(0, .ref (hs_q X 100)), (1, .int x1), (2, .int x2), (3, .int x3), (4, .int x4), (5, .int x5), (6, .int x6), (7, .int x7)] [.int y0] 157 := by
  unfold f_X7_send_157 at h
  refine hs_istore (lv' := [(8, .int y0), (0, .ref (hs_q X 100)), (1, .int x1), (2, .int x2), (3, .int x3), (4, .int x4), (5, .int x5), (6, .int x6), (7, .int x7)]) C dX7_send_157 (by decide) rfl ?_
  refine hs_iload C dX7_send_159 8 rfl ?_
  refine hs_if_eq (tgt := 175) C dX7_send_161 (by decide) h (fun h => ?_) (fun h => ?_)
  · skip
    refine hs_sub [1, 2, 3, 4, 5, 6, 7] rfl ?_
    exact t_X7_send_175 C hf  x1 x2 x3 x4 x5 x6 S h
  · skip
    refine hs_aload_n C dX7_send_164 1 rfl rfl ?_
    refine gf_X7_38 C dX7_send_165 ?_
    refine hs_iload_n C dX7_send_168 2 rfl rfl ?_
    refine hs_ald (kd := 14) C (Or.inr rfl) rfl (show hs_K 110 = 14 by decide +kernel) h dX7_send_169 (fun h => ?_)
    refine hs_bipush (v := 20) C dX7_send_170 (by decide) ?_
    refine hs_icmp_ne (tgt := 192) C dX7_send_172 (by decide) h (fun h => ?_) (fun h => ?_)
    · skip
      refine hs_iload C dX7_send_192 0 rfl ?_
      refine hs_if_ne (tgt := 224) C dX7_send_194 (by decide) h (fun h => ?_) (fun h => ?_)
      · skip
        refine hs_sub [1, 2, 3, 4, 5, 6, 7] rfl ?_
        exact t_X7_send_224 C hf  x1 x2 x3 x4 x5 x6 S h
      · skip
        refine hs_aload_n C dX7_send_197 1 rfl rfl ?_
        refine gf_X7_32 C dX7_send_198 ?_
        refine hs_iload_n C dX7_send_201 2 rfl rfl ?_
        refine hs_aload_n C dX7_send_202 1 rfl rfl ?_
        refine gf_X7_32 C dX7_send_203 ?_
        refine hs_iload_n C dX7_send_206 2 rfl rfl ?_
        refine hs_ald (kd := 14) C (Or.inr rfl) rfl (show hs_K 108 = 14 by decide +kernel) h dX7_send_207 (fun h => ?_)
        refine hs_if_ne (tgt := 215) C dX7_send_208 (by decide) h (fun h => ?_) (fun h => ?_)
        · skip
          refine hs_iconst (v := 1) C dX7_send_215 (by decide) ?_
          refine hs_sub [1, 2, 3, 4, 5, 6, 7] rfl ?_
          exact t_X7_send_216 C hf  x1 x2 x3 x4 x5 x6 x1 (1 : Int32) S h
        · skip
          refine hs_iconst (v := 0) C dX7_send_211 (by decide) ?_
          refine hs_goto (tgt := 216) C dX7_send_212 (by decide) ?_
          refine hs_sub [1, 2, 3, 4, 5, 6, 7] rfl ?_
          exact t_X7_send_216 C hf  x1 x2 x3 x4 x5 x6 x1 (0 : Int32) S h
    · skip
      refine hs_sub [1, 2, 3, 4, 5, 6, 7] rfl ?_
      exact t_X7_send_175 C hf  x1 x2 x3 x4 x5 x6 S h
set_option maxRecDepth 100000 in
set_option maxHeartbeats 4000000 in
theorem t_X7_send_156 {X : hs_T} (C : hs_C X 1 RX7 cX7_send 11 3) {res : Int32 × hs_M} (hf : hs_FI X cX7_send res) (x1 : Int32) (x2 : Int32) (x3 : Int32) (x4 : Int32) (x5 : Int32) (x6 : Int32) (x7 : Int32) (S : hs_M) (h : f_X7_send_156 x1 x2 x3 x4 x5 x6 x7 S = some res) : hs_Z X 11 S [(0, .ref (hs_q X 100)), (1, .int x1), (2, .int x2), (3, .int x3), (4, .int x4), (5, .int x5), (6, .int x6), (7, .int x7)] [] 156 := by
  unfold f_X7_send_156 at h
  refine hs_iconst (v := 0) C dX7_send_156 (by decide) ?_
  exact t_X7_send_157 C hf  x1 x2 x3 x4 x5 x6 x7 (0 : Int32) S h
set_option maxRecDepth 100000 in
set_option maxHeartbeats 4000000 in
theorem t_X7_send_123 {X : hs_T} (C : hs_C X 1 RX7 cX7_send 11 3) {res : Int32 × hs_M} (hf : hs_FI X cX7_send res) (x1 : Int32) (x2 : Int32) (x3 : Int32) (x4 : Int32) (x5 : Int32) (x6 : Int32) (y0 : Int32) (S : hs_M) (h : f_X7_send_123 x1 x2 x3 x4 x5 x6 y0 S = some res) : hs_Z X 11 S [(0, .ref (hs_q X 100)), (1, .int x1), (2, .int x2), (3, .int x3), (4, .int x4), (5, .int x5), (6, .int x6)] [.int y0] 123 := by
  unfold f_X7_send_123 at h
  refine hs_istore (lv' := [(7, .int y0), (0, .ref (hs_q X 100)), (1, .int x1), (2, .int x2), (3, .int x3), (4, .int x4), (5, .int x5), (6, .int x6)]) C dX7_send_123 (by decide) rfl ?_
  refine hs_iload C dX7_send_125 0 rfl ?_
  refine hs_if_eq (tgt := 156) C dX7_send_127 (by decide) h (fun h => ?_) (fun h => ?_)
  · skip
    refine hs_sub [1, 2, 3, 4, 5, 6, 7, 0] rfl ?_
    exact t_X7_send_156 C hf  x1 x2 x3 x4 x5 x6 y0 S h
  · skip
    refine hs_aload_n C dX7_send_130 1 rfl rfl ?_
    refine gf_X7_26 C dX7_send_131 ?_
    refine hs_iload_n C dX7_send_134 2 rfl rfl ?_
    refine hs_ald (kd := 14) C (Or.inr rfl) rfl (show hs_K 106 = 14 by decide +kernel) h dX7_send_135 (fun h => ?_)
    refine hs_iload C dX7_send_136 6 rfl ?_
    refine hs_icmp_ne (tgt := 156) C dX7_send_138 (by decide) h (fun h => ?_) (fun h => ?_)
    · skip
      refine hs_sub [1, 2, 3, 4, 5, 6, 7, 0] rfl ?_
      exact t_X7_send_156 C hf  x1 x2 x3 x4 x5 x6 y0 S h
    · skip
      refine hs_aload_n C dX7_send_141 1 rfl rfl ?_
      refine gf_X7_29 C dX7_send_142 ?_
      refine hs_iload_n C dX7_send_145 2 rfl rfl ?_
      refine hs_ald (kd := 14) C (Or.inr rfl) rfl (show hs_K 107 = 14 by decide +kernel) h dX7_send_146 (fun h => ?_)
      refine hs_iload C dX7_send_147 7 rfl ?_
      refine hs_icmp_ne (tgt := 156) C dX7_send_149 (by decide) h (fun h => ?_) (fun h => ?_)
      · skip
        refine hs_sub [1, 2, 3, 4, 5, 6, 7, 0] rfl ?_
        exact t_X7_send_156 C hf  x1 x2 x3 x4 x5 x6 y0 S h
      · skip
        refine hs_iconst (v := 1) C dX7_send_152 (by decide) ?_
        refine hs_goto (tgt := 157) C dX7_send_153 (by decide) ?_
        refine hs_sub [1, 2, 3, 4, 5, 6, 7, 0] rfl ?_
        exact t_X7_send_157 C hf  x1 x2 x3 x4 x5 x6 y0 (1 : Int32) S h
set_option maxRecDepth 100000 in
set_option maxHeartbeats 4000000 in
theorem t_X7_send_122 {X : hs_T} (C : hs_C X 1 RX7 cX7_send 11 3) {res : Int32 × hs_M} (hf : hs_FI X cX7_send res) (x1 : Int32) (x2 : Int32) (x3 : Int32) (x4 : Int32) (x5 : Int32) (x6 : Int32) (S : hs_M) (h : f_X7_send_122 x1 x2 x3 x4 x5 x6 S = some res) : hs_Z X 11 S [(0, .ref (hs_q X 100)), (1, .int x1), (2, .int x2), (3, .int x3), (4, .int x4), (5, .int x5), (6, .int x6)] [] 122 := by
  unfold f_X7_send_122 at h
  refine hs_iconst (v := 0) C dX7_send_122 (by decide) ?_
  exact t_X7_send_123 C hf  x1 x2 x3 x4 x5 x6 (0 : Int32) S h
set_option maxRecDepth 100000 in
set_option maxHeartbeats 4000000 in
theorem t_X7_send_35 {X : hs_T} (C : hs_C X 1 RX7 cX7_send 11 3) {res : Int32 × hs_M} (hf : hs_FI X cX7_send res) (x1 : Int32) (x2 : Int32) (x3 : Int32) (x4 : Int32) (y1 : Int32) (S : hs_M) (h : f_X7_send_35 x1 x2 x3 x4 y1 S = some res) : hs_Z X 11 S [(0, .ref (hs_q X 100)), (1, .int x1), (2, .int x2), (3, .int x3), (4, .int x4)] [.int y1, .ref (hs_q X 100)] 35 := by
  unfold f_X7_send_35 at h
  refine pf_X7_92 C h dX7_send_35 (fun S_1 h => ?_)
  refine hs_aload_n C dX7_send_38 0 rfl rfl ?_
  refine gf_X7_92 C dX7_send_39 ?_
  refine hs_if_eq (tgt := 47) C dX7_send_42 (by decide) h (fun h => ?_) (fun h => ?_)
  · skip
    refine hs_iload_n C dX7_send_47 3 rfl rfl ?_
    refine hs_iload_n C dX7_send_48 2 rfl rfl ?_
    refine hs_aload_n C dX7_send_49 0 rfl rfl ?_
    refine gf_X7_7 C dX7_send_50 ?_
    refine hs_iload_n C dX7_send_53 1 rfl rfl ?_
    refine hs_ald (kd := 14) C (Or.inr rfl) rfl (show hs_K 101 = 14 by decide +kernel) h dX7_send_54 (fun h => ?_)
    refine hs_imul C dX7_send_55 ?_
    refine hs_isub C dX7_send_56 ?_
    refine hs_top h (fun x_2 h => ?_)
    refine hs_istore (lv' := [(5, .int x_2), (0, .ref (hs_q X 100)), (1, .int x1), (2, .int x2), (3, .int x3), (4, .int x4)]) C dX7_send_57 (by decide) rfl ?_
    refine hs_iload C dX7_send_59 5 rfl ?_
    refine hs_iload_n C dX7_send_61 3 rfl rfl ?_
    refine hs_isub C dX7_send_62 ?_
    refine hs_ldc C ww_313 dX7_send_63 ?_
    refine hs_iand C dX7_send_65 ?_
    refine hs_top h (fun x_3 h => ?_)
    refine hs_istore (lv' := [(6, .int x_3), (5, .int x_2), (0, .ref (hs_q X 100)), (1, .int x1), (2, .int x2), (3, .int x3), (4, .int x4)]) C dX7_send_66 (by decide) rfl ?_
    refine hs_aload_n C dX7_send_68 2 rfl rfl ?_
    refine gf_X7_13 C dX7_send_69 ?_
    refine hs_iload_n C dX7_send_72 3 rfl rfl ?_
    refine hs_zld C rfl (show hs_K 102 = 15 by decide +kernel) h dX7_send_73 (fun h => ?_)
    refine hs_if_eq (tgt := 122) C dX7_send_74 (by decide) h (fun h => ?_) (fun h => ?_)
    · skip
      refine hs_sub [2, 3, 4, 5, 6, 1, 0] rfl ?_
      exact t_X7_send_122 C hf  x1 x2 x3 x4 x_2 x_3 S_1 h
    · skip
      refine hs_aload_n C dX7_send_77 2 rfl rfl ?_
      refine gf_X7_17 C dX7_send_78 ?_
      refine hs_iload_n C dX7_send_81 3 rfl rfl ?_
      refine hs_ald (kd := 14) C (Or.inr rfl) rfl (show hs_K 103 = 14 by decide +kernel) h dX7_send_82 (fun h => ?_)
      refine hs_aload_n C dX7_send_83 2 rfl rfl ?_
      refine gf_X7_104 C dX7_send_84 ?_
      refine hs_icmp_ne (tgt := 122) C dX7_send_87 (by decide) h (fun h => ?_) (fun h => ?_)
      · skip
        refine hs_sub [2, 3, 4, 5, 6, 1, 0] rfl ?_
        exact t_X7_send_122 C hf  x1 x2 x3 x4 x_2 x_3 S_1 h
      · skip
        refine hs_aload_n C dX7_send_90 2 rfl rfl ?_
        refine gf_X7_20 C dX7_send_91 ?_
        refine hs_iload_n C dX7_send_94 3 rfl rfl ?_
        refine hs_ald (kd := 14) C (Or.inr rfl) rfl (show hs_K 104 = 14 by decide +kernel) h dX7_send_95 (fun h => ?_)
        refine hs_aload_n C dX7_send_96 2 rfl rfl ?_
        refine gf_X7_107 C dX7_send_97 ?_
        refine hs_icmp_ne (tgt := 122) C dX7_send_100 (by decide) h (fun h => ?_) (fun h => ?_)
        · skip
          refine hs_sub [2, 3, 4, 5, 6, 1, 0] rfl ?_
          exact t_X7_send_122 C hf  x1 x2 x3 x4 x_2 x_3 S_1 h
        · skip
          refine hs_aload_n C dX7_send_103 2 rfl rfl ?_
          refine gf_X7_23 C dX7_send_104 ?_
          refine hs_iload_n C dX7_send_107 3 rfl rfl ?_
          refine hs_ald (kd := 14) C (Or.inr rfl) rfl (show hs_K 105 = 14 by decide +kernel) h dX7_send_108 (fun h => ?_)
          refine hs_aload_n C dX7_send_109 2 rfl rfl ?_
          refine gf_X7_7 C dX7_send_110 ?_
          refine hs_iload_n C dX7_send_113 3 rfl rfl ?_
          refine hs_ald (kd := 14) C (Or.inr rfl) rfl (show hs_K 101 = 14 by decide +kernel) h dX7_send_114 (fun h => ?_)
          refine hs_icmp_ne (tgt := 122) C dX7_send_115 (by decide) h (fun h => ?_) (fun h => ?_)
          · skip
            refine hs_sub [2, 3, 4, 5, 6, 1, 0] rfl ?_
            exact t_X7_send_122 C hf  x1 x2 x3 x4 x_2 x_3 S_1 h
          · skip
            refine hs_iconst (v := 1) C dX7_send_118 (by decide) ?_
            refine hs_goto (tgt := 123) C dX7_send_119 (by decide) ?_
            refine hs_sub [2, 3, 4, 5, 6, 1, 0] rfl ?_
            exact t_X7_send_123 C hf  x1 x2 x3 x4 x_2 x_3 (1 : Int32) S_1 h
  · skip
    refine hs_iconst (v := 0) C dX7_send_45 (by decide) ?_
    exact hs_ireti C hf h dX7_send_46
set_option maxRecDepth 100000 in
set_option maxHeartbeats 4000000 in
theorem t_X7_send_30 {X : hs_T} (C : hs_C X 1 RX7 cX7_send 11 3) {res : Int32 × hs_M} (hf : hs_FI X cX7_send res) (x1 : Int32) (x2 : Int32) (x3 : Int32) (x4 : Int32) (S : hs_M) (h : f_X7_send_30 x1 x2 x3 x4 S = some res) : hs_Z X 11 S [(0, .ref (hs_q X 100)), (1, .int x1), (2, .int x2), (3, .int x3), (4, .int x4)] [.ref (hs_q X 100)] 30 := by
  unfold f_X7_send_30 at h
  refine hs_iconst (v := 2) C dX7_send_30 (by decide) ?_
  refine hs_goto (tgt := 35) C dX7_send_31 (by decide) ?_
  exact t_X7_send_35 C hf  x1 x2 x3 x4 (2 : Int32) S h
set_option maxRecDepth 100000 in
set_option maxHeartbeats 4000000 in
theorem t_X7_send_0 {X : hs_T} (C : hs_C X 1 RX7 cX7_send 11 3) {res : Int32 × hs_M} (hf : hs_FI X cX7_send res) (x1 : Int32) (x2 : Int32) (x3 : Int32) (x4 : Int32) (S : hs_M) (h : f_X7_send_0 x1 x2 x3 x4 S = some res) : hs_Z X 11 S [(0, .ref (hs_q X 100)), (1, .int x1), (2, .int x2), (3, .int x3), (4, .int x4)] [] 0 := by
  unfold f_X7_send_0 at h
  refine hs_aload_n C dX7_send_0 0 rfl rfl ?_
  refine hs_aload_n C dX7_send_1 0 rfl rfl ?_
  refine hs_iload_n C dX7_send_2 1 rfl rfl ?_
  obtain ⟨r_3, S_1, hc_2, h⟩ := hs_b2_s h
  refine cs_X7_97 C (m_X7_noFlow x1 S hc_2) (by decide) (Nat.le_of_ble_eq_true rfl) dX7_send_3 ?_
  refine hs_if_eq (tgt := 13) C dX7_send_6 (by decide) h (fun h => ?_) (fun h => ?_)
  · skip
    refine hs_aload_n C dX7_send_13 0 rfl rfl ?_
    refine hs_iload_n C dX7_send_14 2 rfl rfl ?_
    obtain ⟨r_6, S_4, hc_5, h⟩ := hs_b2_s h
    refine cs_X7_101 C (m_X7_outside x2 S_1 hc_5) (by decide) (Nat.le_of_ble_eq_true rfl) dX7_send_15 ?_
    refine hs_if_ne (tgt := 30) C dX7_send_18 (by decide) h (fun h => ?_) (fun h => ?_)
    · skip
      exact t_X7_send_30 C hf  x1 x2 x3 x4 S_4 h
    · skip
      refine hs_aload_n C dX7_send_21 0 rfl rfl ?_
      refine hs_iload C dX7_send_22 4 rfl ?_
      obtain ⟨r_9, S_7, hc_8, h⟩ := hs_b2_s h
      refine cs_X7_101 C (m_X7_outside x4 S_4 hc_8) (by decide) (Nat.le_of_ble_eq_true rfl) dX7_send_24 ?_
      refine hs_if_eq (tgt := 34) C dX7_send_27 (by decide) h (fun h => ?_) (fun h => ?_)
      · skip
        refine hs_iconst (v := 0) C dX7_send_34 (by decide) ?_
        exact t_X7_send_35 C hf  x1 x2 x3 x4 (0 : Int32) S_7 h
      · skip
        exact t_X7_send_30 C hf  x1 x2 x3 x4 S_7 h
  · skip
    refine hs_iconst (v := 1) C dX7_send_9 (by decide) ?_
    refine hs_goto (tgt := 35) C dX7_send_10 (by decide) ?_
    exact t_X7_send_35 C hf  x1 x2 x3 x4 (1 : Int32) S_1 h
theorem m_X7_send (a1 : Int32) (a2 : Int32) (a3 : Int32) (a4 : Int32) (S : hs_M) {r : Int32} {S' : hs_M} (h : f_X7_send a1 a2 a3 a4 S = some (r, S')) : hs_met 1 yX7_send cX7_send 11 (some .int) 3 (fun q => [.ref (q 100), .int a1, .int a2, .int a3, .int a4]) S (fun q => some (.int r)) S' :=
  hs_mkI (res := (r, S')) (by decide +kernel) (by decide) (fun q => Nat.le_of_ble_eq_true rfl) fun X C hf => (t_X7_send_0 C hf a1 a2 a3 a4 S h)
