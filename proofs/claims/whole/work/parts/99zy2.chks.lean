/-! ===== the checks, method by method (by wip/whole/mk_checks.py) ===== -/
set_option maxRecDepth 100000 in
set_option maxHeartbeats 4000000 in
theorem pk_178 : pg_chk 11 false (some .int) prog_1_method_38_code pp_178 0 cb_178_0 pp_178 = true := by decide +kernel
set_option maxRecDepth 100000 in
set_option maxHeartbeats 4000000 in
theorem pk_179 : pg_chk 11 false (some .int) prog_1_method_39_code pp_179 0 cb_179_0 pp_179 = true := by decide +kernel
set_option maxRecDepth 100000 in
set_option maxHeartbeats 4000000 in
theorem pk_180 : pg_chk 11 false (some .int) prog_1_method_40_code pp_180 0 cb_180_0 pp_180 = true := by decide +kernel
set_option maxRecDepth 100000 in
set_option maxHeartbeats 4000000 in
theorem pk_181 : pg_chk 11 false (some .int) prog_1_method_41_code pp_181 0 cb_181_0 pp_181 = true := by decide +kernel
set_option maxRecDepth 100000 in
set_option maxHeartbeats 4000000 in
theorem pk_182 : pg_chk 11 false none prog_1_method_42_code pp_182 0 cb_182_0 pp_182 = true := by decide +kernel
set_option maxRecDepth 100000 in
set_option maxHeartbeats 4000000 in
theorem pk_183 : pg_chk 11 false none prog_1_method_43_code pp_183 0 cb_183_0 pp_183 = true := by decide +kernel
set_option maxRecDepth 100000 in
set_option maxHeartbeats 4000000 in
theorem pk_184 : pg_chk 11 false none prog_1_method_44_code pp_184 0 cb_184_0 pp_184 = true := by decide +kernel
set_option maxRecDepth 100000 in
set_option maxHeartbeats 4000000 in
theorem pk_185 : pg_chk 11 false none prog_1_method_45_code pp_185 0 cb_185_0 pp_185 = true := by decide +kernel
set_option maxRecDepth 100000 in
set_option maxHeartbeats 4000000 in
theorem pk_186 : pg_chk 11 false none prog_1_method_46_code pp_186 0 cb_186_0 pp_186 = true := by decide +kernel
set_option maxRecDepth 100000 in
set_option maxHeartbeats 4000000 in
theorem pk_187 : pg_chk 11 false none prog_1_method_47_code pp_187 0 cb_187_0 pp_187 = true := by decide +kernel
set_option maxRecDepth 100000 in
set_option maxHeartbeats 4000000 in
theorem pk_188 : pg_chk 11 false (some .int) prog_1_method_48_code pp_188 0 cb_188_0 pp_188 = true := by decide +kernel
set_option maxRecDepth 100000 in
set_option maxHeartbeats 4000000 in
theorem pk_189 : pg_chk 11 false none prog_1_method_49_code pp_189 0 cb_189_0 pp_189 = true := by decide +kernel
set_option maxRecDepth 100000 in
set_option maxHeartbeats 4000000 in
theorem pk_190 : pg_chk 11 false none prog_1_method_50_code pp_190 0 cb_190_0 pp_190 = true := by decide +kernel
set_option maxRecDepth 100000 in
set_option maxHeartbeats 4000000 in
theorem pk_191 : pg_chk 11 false none prog_1_method_51_code pp_191 0 cb_191_0 pp_191 = true := by decide +kernel
set_option maxRecDepth 100000 in
set_option maxHeartbeats 4000000 in
theorem pk_192 : pg_chk 11 false none prog_1_method_52_code pp_192 0 cb_192_0 pp_192 = true := by decide +kernel
set_option maxRecDepth 100000 in
set_option maxHeartbeats 4000000 in
theorem pk_193 : pg_chk 11 false (some .int) prog_1_method_53_code pp_193 0 cb_193_0 pp_193 = true := by decide +kernel
set_option maxRecDepth 100000 in
set_option maxHeartbeats 4000000 in
theorem pk_194 : pg_chk 11 false (some .long) prog_1_method_54_code pp_194 0 cb_194_0 pp_194 = true := by decide +kernel
set_option maxRecDepth 100000 in
set_option maxHeartbeats 4000000 in
theorem pk_195 : pg_chk 11 false (some .boolean) prog_1_method_55_code pp_195 0 cb_195_0 pp_195 = true := by decide +kernel
set_option maxRecDepth 100000 in
set_option maxHeartbeats 4000000 in
theorem pk_196 : pg_chk 12 false (some .int) prog_14_method_1_code pp_196 0 cb_196_0 pp_196 = true := by decide +kernel
set_option maxRecDepth 100000 in
set_option maxHeartbeats 4000000 in
theorem pk_197 : pg_chk 12 false (some .boolean) prog_14_method_2_code pp_197 0 cb_197_0 pp_197 = true := by decide +kernel
set_option maxRecDepth 100000 in
set_option maxHeartbeats 4000000 in
theorem pk_198 : pg_chk 12 false (some .boolean) prog_14_method_3_code pp_198 0 cb_198_0 pp_198 = true := by decide +kernel
set_option maxRecDepth 100000 in
set_option maxHeartbeats 4000000 in
theorem pk_199 : pg_chk 12 true none prog_14_method_4_code pp_199 0 cb_199_0 pp_199 = true := by decide +kernel
set_option maxRecDepth 100000 in
set_option maxHeartbeats 4000000 in
theorem pk_200 : pg_chk 12 false (some .int) prog_14_method_5_code pp_200 0 cb_200_0 pp_200 = true := by decide +kernel
set_option maxRecDepth 100000 in
set_option maxHeartbeats 4000000 in
theorem pk_201 : pg_chk 12 false (some .boolean) prog_14_method_6_code pp_201 0 cb_201_0 pp_201 = true := by decide +kernel
set_option maxRecDepth 100000 in
set_option maxHeartbeats 4000000 in
theorem pk_202 : pg_chk 12 false none prog_14_method_7_code pp_202 0 cb_202_0 pp_202 = true := by decide +kernel
set_option maxRecDepth 100000 in
set_option maxHeartbeats 4000000 in
theorem pk_203 : pg_chk 12 false (some .int) prog_14_method_8_code pp_203 0 cb_203_0 pp_203 = true := by decide +kernel
set_option maxRecDepth 100000 in
set_option maxHeartbeats 4000000 in
theorem pk_204 : pg_chk 12 false (some .boolean) prog_14_method_9_code pp_204 0 cb_204_0 pp_204 = true := by decide +kernel
set_option maxRecDepth 100000 in
set_option maxHeartbeats 4000000 in
theorem pk_205 : pg_chk 12 false (some .boolean) prog_14_method_10_code pp_205 0 cb_205_0 pp_205 = true := by decide +kernel
set_option maxRecDepth 100000 in
set_option maxHeartbeats 4000000 in
theorem pk_206 : pg_chk 12 false (some .int) prog_14_method_11_code pp_206 0 cb_206_0 pp_206 = true := by decide +kernel
set_option maxRecDepth 100000 in
set_option maxHeartbeats 4000000 in
theorem pk_207 : pg_chk 12 false (some .int) prog_14_method_12_code pp_207 0 cb_207_0 pp_207 = true := by decide +kernel
set_option maxRecDepth 100000 in
set_option maxHeartbeats 4000000 in
theorem pk_208 : pg_chk 12 false none prog_14_method_13_code pp_208 0 cb_208_0 pp_208 = true := by decide +kernel
set_option maxRecDepth 100000 in
set_option maxHeartbeats 4000000 in
theorem pk_209 : pg_chk 12 false (some .int) prog_14_method_14_code pp_209 0 cb_209_0 pp_209 = true := by decide +kernel
set_option maxRecDepth 100000 in
set_option maxHeartbeats 4000000 in
theorem pk_210 : pg_chk 12 false none prog_14_method_15_code pp_210 0 cb_210_0 pp_210 = true := by decide +kernel
set_option maxRecDepth 100000 in
set_option maxHeartbeats 4000000 in
theorem pk_211 : pg_chk 12 false (some .boolean) prog_14_method_16_code pp_211 0 cb_211_0 pp_211 = true := by decide +kernel
set_option maxRecDepth 100000 in
set_option maxHeartbeats 4000000 in
theorem pk_212 : pg_chk 12 false none prog_14_method_17_code pp_212 0 cb_212_0 pp_212 = true := by decide +kernel
set_option maxRecDepth 100000 in
set_option maxHeartbeats 4000000 in
theorem pk_213 : pg_chk 12 false (some .int) prog_14_method_18_code pp_213 0 cb_213_0 pp_213 = true := by decide +kernel
set_option maxRecDepth 100000 in
set_option maxHeartbeats 4000000 in
theorem pk_214 : pg_chk 12 false (some .int) prog_14_method_19_code pp_214 0 cb_214_0 pp_214 = true := by decide +kernel
set_option maxRecDepth 100000 in
set_option maxHeartbeats 4000000 in
theorem pk_215 : pg_chk 12 false none prog_14_method_20_code pp_215 0 cb_215_0 pp_215 = true := by decide +kernel
set_option maxRecDepth 100000 in
set_option maxHeartbeats 4000000 in
theorem pk_216 : pg_chk 12 false none prog_14_method_21_code pp_216 0 cb_216_0 pp_216 = true := by decide +kernel
set_option maxRecDepth 100000 in
set_option maxHeartbeats 4000000 in
theorem pk_217 : pg_chk 12 false none prog_14_method_22_code pp_217 0 cb_217_0 pp_217 = true := by decide +kernel
set_option maxRecDepth 100000 in
set_option maxHeartbeats 4000000 in
theorem pk_218 : pg_chk 12 false (some .boolean) prog_14_method_23_code pp_218 0 cb_218_0 pp_218 = true := by decide +kernel
set_option maxRecDepth 100000 in
set_option maxHeartbeats 4000000 in
theorem pk_219 : pg_chk 12 false (some .boolean) prog_14_method_24_code pp_219 0 cb_219_0 pp_219 = true := by decide +kernel
set_option maxRecDepth 100000 in
set_option maxHeartbeats 4000000 in
theorem pk_220 : pg_chk 12 false (some .int) prog_14_method_25_code pp_220 0 cb_220_0 pp_220 = true := by decide +kernel
set_option maxRecDepth 100000 in
set_option maxHeartbeats 4000000 in
theorem pk_221 : pg_chk 12 false none prog_14_method_26_code pp_221 0 cb_221_0 pp_221 = true := by decide +kernel
set_option maxRecDepth 100000 in
set_option maxHeartbeats 4000000 in
theorem pk_222 : pg_chk 12 false (some .int) prog_14_method_27_code pp_222 0 cb_222_0 pp_222 = true := by decide +kernel
set_option maxRecDepth 100000 in
set_option maxHeartbeats 4000000 in
theorem pk_223 : pg_chk 12 false none prog_14_method_28_code pp_223 0 cb_223_0 pp_223 = true := by decide +kernel
set_option maxRecDepth 100000 in
set_option maxHeartbeats 4000000 in
theorem pk_224 : pg_chk 12 false none prog_14_method_29_code pp_224 0 cb_224_0 pp_224 = true := by decide +kernel
set_option maxRecDepth 100000 in
set_option maxHeartbeats 4000000 in
theorem pk_225 : pg_chk 12 false none prog_14_method_30_code pp_225 0 cb_225_0 pp_225 = true := by decide +kernel
set_option maxRecDepth 100000 in
set_option maxHeartbeats 4000000 in
theorem pk_226 : pg_chk 12 false none prog_14_method_31_code pp_226 0 cb_226_0 pp_226 = true := by decide +kernel
set_option maxRecDepth 100000 in
set_option maxHeartbeats 4000000 in
theorem pk_227 : pg_chk 12 false none prog_14_method_32_code pp_227 0 cb_227_0 pp_227 = true := by decide +kernel
set_option maxRecDepth 100000 in
set_option maxHeartbeats 4000000 in
theorem pk_228 : pg_chk 12 false (some .boolean) prog_14_method_33_code pp_228 0 cb_228_0 pp_228 = true := by decide +kernel
set_option maxRecDepth 100000 in
set_option maxHeartbeats 4000000 in
theorem pk_229 : pg_chk 12 false (some .int) prog_14_method_34_code pp_229 0 cb_229_0 pp_229 = true := by decide +kernel
set_option maxRecDepth 100000 in
set_option maxHeartbeats 4000000 in
theorem pk_230 : pg_chk 12 false none prog_14_method_35_code pp_230 0 cb_230_0 pp_230 = true := by decide +kernel
set_option maxRecDepth 100000 in
set_option maxHeartbeats 4000000 in
theorem pk_231 : pg_chk 12 false (some .int) prog_14_method_36_code pp_231 0 cb_231_0 pp_231 = true := by decide +kernel
set_option maxRecDepth 100000 in
set_option maxHeartbeats 4000000 in
theorem pk_232 : pg_chk 12 false (some .int) prog_14_method_37_code pp_232 0 cb_232_0 pp_232 = true := by decide +kernel
set_option maxRecDepth 100000 in
set_option maxHeartbeats 4000000 in
theorem pk_233 : pg_chk 12 false (some .int) prog_14_method_38_code pp_233 0 cb_233_0 pp_233 = true := by decide +kernel
set_option maxRecDepth 100000 in
set_option maxHeartbeats 4000000 in
theorem pk_234 : pg_chk 12 false (some .int) prog_14_method_39_code pp_234 0 cb_234_0 pp_234 = true := by decide +kernel
set_option maxRecDepth 100000 in
set_option maxHeartbeats 4000000 in
theorem pk_235 : pg_chk 12 false none prog_14_method_40_code pp_235 0 cb_235_0 pp_235 = true := by decide +kernel
set_option maxRecDepth 100000 in
set_option maxHeartbeats 4000000 in
theorem pk_236 : pg_chk 12 false (some .int) prog_14_method_41_code pp_236 0 cb_236_0 pp_236 = true := by decide +kernel
set_option maxRecDepth 100000 in
set_option maxHeartbeats 4000000 in
theorem pk_237 : pg_chk 12 false (some .int) prog_14_method_42_code pp_237 0 cb_237_0 pp_237 = true := by decide +kernel
set_option maxRecDepth 100000 in
set_option maxHeartbeats 4000000 in
theorem pk_238 : pg_chk 12 false none prog_14_method_43_code pp_238 0 cb_238_0 pp_238 = true := by decide +kernel
set_option maxRecDepth 100000 in
set_option maxHeartbeats 4000000 in
theorem pk_239 : pg_chk 12 false none prog_14_method_44_code pp_239 0 cb_239_0 pp_239 = true := by decide +kernel
set_option maxRecDepth 100000 in
set_option maxHeartbeats 4000000 in
theorem pk_240 : pg_chk 12 false (some .int) prog_14_method_45_code pp_240 0 cb_240_0 pp_240 = true := by decide +kernel
set_option maxRecDepth 100000 in
set_option maxHeartbeats 4000000 in
theorem pk_241 : pg_chk 12 false none prog_14_method_46_code pp_241 0 cb_241_0 pp_241 = true := by decide +kernel
set_option maxRecDepth 100000 in
set_option maxHeartbeats 4000000 in
theorem pk_242 : pg_chk 12 false (some .int) prog_14_method_47_code pp_242 0 cb_242_0 pp_242 = true := by decide +kernel
set_option maxRecDepth 100000 in
set_option maxHeartbeats 4000000 in
theorem pk_243 : pg_chk 12 false (some .boolean) prog_14_method_48_code pp_243 0 cb_243_0 pp_243 = true := by decide +kernel
set_option maxRecDepth 100000 in
set_option maxHeartbeats 4000000 in
theorem pk_244 : pg_chk 12 false (some .int) prog_14_method_49_code pp_244 0 cb_244_0 pp_244 = true := by decide +kernel
set_option maxRecDepth 100000 in
set_option maxHeartbeats 4000000 in
theorem pk_245 : pg_chk 12 false (some .int) prog_14_method_50_code pp_245 0 cb_245_0 pp_245 = true := by decide +kernel
set_option maxRecDepth 100000 in
set_option maxHeartbeats 4000000 in
theorem pk_246 : pg_chk 12 false none prog_14_method_51_code pp_246 0 cb_246_0 pp_246 = true := by decide +kernel
set_option maxRecDepth 100000 in
set_option maxHeartbeats 4000000 in
theorem pk_247 : pg_chk 12 false (some .int) prog_14_method_52_code pp_247 0 cb_247_0 pp_247 = true := by decide +kernel
set_option maxRecDepth 100000 in
set_option maxHeartbeats 4000000 in
theorem pk_248 : pg_chk 12 false (some .int) prog_14_method_53_code pp_248 0 cb_248_0 pp_248 = true := by decide +kernel
set_option maxRecDepth 100000 in
set_option maxHeartbeats 4000000 in
theorem pk_249 : pg_chk 12 false (some .int) prog_14_method_54_code pp_249 0 cb_249_0 pp_249 = true := by decide +kernel
set_option maxRecDepth 100000 in
set_option maxHeartbeats 4000000 in
theorem pk_250 : pg_chk 12 false (some .int) prog_14_method_55_code pp_250 0 cb_250_0 pp_250 = true := by decide +kernel
set_option maxRecDepth 100000 in
set_option maxHeartbeats 4000000 in
theorem pk_251 : pg_chk 12 false (some .int) prog_14_method_56_code pp_251 0 cb_251_0 pp_251 = true := by decide +kernel
set_option maxRecDepth 100000 in
set_option maxHeartbeats 4000000 in
theorem pk_252 : pg_chk 12 false (some .int) prog_14_method_57_code pp_252 0 cb_252_0 pp_252 = true := by decide +kernel
set_option maxRecDepth 100000 in
set_option maxHeartbeats 4000000 in
theorem pk_253 : pg_chk 12 false (some .int) prog_14_method_58_code pp_253 0 cb_253_0 pp_253 = true := by decide +kernel
set_option maxRecDepth 100000 in
set_option maxHeartbeats 4000000 in
theorem pk_254 : pg_chk 12 false (some .boolean) prog_14_method_59_code pp_254 0 cb_254_0 pp_254 = true := by decide +kernel
