/-! ===== the checks, method by method (by wip/whole/mk_checks.py) ===== -/
set_option maxRecDepth 100000 in
set_option maxHeartbeats 4000000 in
theorem pk_255 : pg_chk 12 false none prog_14_method_60_code pp_255 0 cb_255_0 pp_255 = true := by decide +kernel
set_option maxRecDepth 100000 in
set_option maxHeartbeats 4000000 in
theorem pk_256 : pg_chk 12 false (some .boolean) prog_14_method_61_code pp_256 0 cb_256_0 pp_256 = true := by decide +kernel
set_option maxRecDepth 100000 in
set_option maxHeartbeats 4000000 in
theorem pk_257 : pg_chk 12 false (some .int) prog_14_method_62_code pp_257 0 cb_257_0 pp_257 = true := by decide +kernel
set_option maxRecDepth 100000 in
set_option maxHeartbeats 4000000 in
theorem pk_258 : pg_chk 12 false (some .int) prog_14_method_63_code pp_258 0 cb_258_0 pp_258 = true := by decide +kernel
set_option maxRecDepth 100000 in
set_option maxHeartbeats 4000000 in
theorem pk_259 : pg_chk 12 false (some .int) prog_14_method_64_code pp_259 0 cb_259_0 pp_259 = true := by decide +kernel
set_option maxRecDepth 100000 in
set_option maxHeartbeats 4000000 in
theorem pk_260 : pg_chk 12 false (some .boolean) prog_14_method_65_code pp_260 0 cb_260_0 pp_260 = true := by decide +kernel
set_option maxRecDepth 100000 in
set_option maxHeartbeats 4000000 in
theorem pk_261 : pg_chk 12 false (some .boolean) prog_14_method_66_code pp_261 0 cb_261_0 pp_261 = true := by decide +kernel
set_option maxRecDepth 100000 in
set_option maxHeartbeats 4000000 in
theorem pk_262 : pg_chk 12 false (some .boolean) prog_14_method_67_code pp_262 0 cb_262_0 pp_262 = true := by decide +kernel
set_option maxRecDepth 100000 in
set_option maxHeartbeats 4000000 in
theorem pk_263 : pg_chk 12 false (some .boolean) prog_14_method_68_code pp_263 0 cb_263_0 pp_263 = true := by decide +kernel
set_option maxRecDepth 100000 in
set_option maxHeartbeats 4000000 in
theorem pk_264 : pg_chk 12 false (some .int) prog_14_method_69_code pp_264 0 cb_264_0 pp_264 = true := by decide +kernel
set_option maxRecDepth 100000 in
set_option maxHeartbeats 4000000 in
theorem pk_265 : pg_chk 12 false (some .int) prog_14_method_70_code pp_265 0 cb_265_0 pp_265 = true := by decide +kernel
set_option maxRecDepth 100000 in
set_option maxHeartbeats 4000000 in
theorem pk_266 : pg_chk 12 false (some .int) prog_14_method_71_code pp_266 0 cb_266_0 pp_266 = true := by decide +kernel
set_option maxRecDepth 100000 in
set_option maxHeartbeats 4000000 in
theorem pk_267 : pg_chk 12 false (some .int) prog_14_method_72_code pp_267 0 cb_267_0 pp_267 = true := by decide +kernel
set_option maxRecDepth 100000 in
set_option maxHeartbeats 4000000 in
theorem pk_268 : pg_chk 12 false (some .int) prog_14_method_73_code pp_268 0 cb_268_0 pp_268 = true := by decide +kernel
set_option maxRecDepth 100000 in
set_option maxHeartbeats 4000000 in
theorem pk_269 : pg_chk 12 false (some .int) prog_14_method_74_code pp_269 0 cb_269_0 pp_269 = true := by decide +kernel
set_option maxRecDepth 100000 in
set_option maxHeartbeats 4000000 in
theorem pk_270 : pg_chk 12 false (some .int) prog_14_method_75_code pp_270 0 cb_270_0 pp_270 = true := by decide +kernel
set_option maxRecDepth 100000 in
set_option maxHeartbeats 4000000 in
theorem pk_271 : pg_chk 12 false (some .int) prog_14_method_76_code pp_271 0 cb_271_0 pp_271 = true := by decide +kernel
set_option maxRecDepth 100000 in
set_option maxHeartbeats 4000000 in
theorem pk_272 : pg_chk 12 false (some .int) prog_14_method_77_code pp_272 0 cb_272_0 pp_272 = true := by decide +kernel
set_option maxRecDepth 100000 in
set_option maxHeartbeats 4000000 in
theorem pk_273 : pg_chk 12 false (some .int) prog_14_method_78_code pp_273 0 cb_273_0 pp_273 = true := by decide +kernel
set_option maxRecDepth 100000 in
set_option maxHeartbeats 4000000 in
theorem pk_274 : pg_chk 12 false (some .int) prog_14_method_79_code pp_274 0 cb_274_0 pp_274 = true := by decide +kernel
set_option maxRecDepth 100000 in
set_option maxHeartbeats 4000000 in
theorem pk_275 : pg_chk 12 false (some .int) prog_14_method_80_code pp_275 0 cb_275_0 pp_275 = true := by decide +kernel
set_option maxRecDepth 100000 in
set_option maxHeartbeats 4000000 in
theorem pk_276 : pg_chk 12 false (some .int) prog_14_method_81_code pp_276 0 cb_276_0 pp_276 = true := by decide +kernel
set_option maxRecDepth 100000 in
set_option maxHeartbeats 4000000 in
theorem pk_277 : pg_chk 12 false (some .int) prog_14_method_82_code pp_277 0 cb_277_0 pp_277 = true := by decide +kernel
set_option maxRecDepth 100000 in
set_option maxHeartbeats 4000000 in
theorem pk_278 : pg_chk 12 false none prog_14_method_83_code pp_278 0 cb_278_0 pp_278 = true := by decide +kernel
set_option maxRecDepth 100000 in
set_option maxHeartbeats 4000000 in
theorem pk_279 : pg_chk 12 false (some .int) prog_14_method_84_code pp_279 0 cb_279_0 pp_279 = true := by decide +kernel
set_option maxRecDepth 100000 in
set_option maxHeartbeats 4000000 in
theorem pk_280 : pg_chk 12 false (some .int) prog_14_method_85_code pp_280 0 cb_280_0 pp_280 = true := by decide +kernel
set_option maxRecDepth 100000 in
set_option maxHeartbeats 4000000 in
theorem pk_281 : pg_chk 12 false (some .int) prog_14_method_86_code pp_281 0 cb_281_0 pp_281 = true := by decide +kernel
set_option maxRecDepth 100000 in
set_option maxHeartbeats 4000000 in
theorem pk_282 : pg_chk 12 false (some .int) prog_14_method_87_code pp_282 0 cb_282_0 pp_282 = true := by decide +kernel
set_option maxRecDepth 100000 in
set_option maxHeartbeats 4000000 in
theorem pk_283 : pg_chk 12 false (some .long) prog_14_method_88_code pp_283 0 cb_283_0 pp_283 = true := by decide +kernel
set_option maxRecDepth 100000 in
set_option maxHeartbeats 4000000 in
theorem pk_284 : pg_chk 12 false (some .int) prog_14_method_89_code pp_284 0 cb_284_0 pp_284 = true := by decide +kernel
set_option maxRecDepth 100000 in
set_option maxHeartbeats 4000000 in
theorem pk_285 : pg_chk 12 false (some .int) prog_14_method_90_code pp_285 0 cb_285_0 pp_285 = true := by decide +kernel
set_option maxRecDepth 100000 in
set_option maxHeartbeats 4000000 in
theorem pk_286 : pg_chk 12 false (some .int) prog_14_method_91_code pp_286 0 cb_286_0 pp_286 = true := by decide +kernel
set_option maxRecDepth 100000 in
set_option maxHeartbeats 4000000 in
theorem pk_287 : pg_chk 12 false (some .boolean) prog_14_method_92_code pp_287 0 cb_287_0 pp_287 = true := by decide +kernel
set_option maxRecDepth 100000 in
set_option maxHeartbeats 4000000 in
theorem pk_288 : pg_chk 12 false (some .int) prog_14_method_93_code pp_288 0 cb_288_0 pp_288 = true := by decide +kernel
set_option maxRecDepth 100000 in
set_option maxHeartbeats 4000000 in
theorem pk_289 : pg_chk 12 false (some .int) prog_14_method_94_code pp_289 0 cb_289_0 pp_289 = true := by decide +kernel
set_option maxRecDepth 100000 in
set_option maxHeartbeats 4000000 in
theorem pk_290 : pg_chk 12 false (some .int) prog_14_method_95_code pp_290 0 cb_290_0 pp_290 = true := by decide +kernel
set_option maxRecDepth 100000 in
set_option maxHeartbeats 4000000 in
theorem pk_291 : pg_chk 12 false (some .int) prog_14_method_96_code pp_291 0 cb_291_0 pp_291 = true := by decide +kernel
set_option maxRecDepth 100000 in
set_option maxHeartbeats 4000000 in
theorem pk_292 : pg_chk 12 false (some .int) prog_14_method_97_code pp_292 0 cb_292_0 pp_292 = true := by decide +kernel
set_option maxRecDepth 100000 in
set_option maxHeartbeats 4000000 in
theorem pk_293 : pg_chk 12 false (some .int) prog_14_method_98_code pp_293 0 cb_293_0 pp_293 = true := by decide +kernel
set_option maxRecDepth 100000 in
set_option maxHeartbeats 4000000 in
theorem pk_294 : pg_chk 12 false (some .long) prog_14_method_99_code pp_294 0 cb_294_0 pp_294 = true := by decide +kernel
set_option maxRecDepth 100000 in
set_option maxHeartbeats 4000000 in
theorem pk_295 : pg_chk 12 false (some .long) prog_14_method_100_code pp_295 0 cb_295_0 pp_295 = true := by decide +kernel
set_option maxRecDepth 100000 in
set_option maxHeartbeats 4000000 in
theorem pk_296 : pg_chk 12 false (some .int) prog_14_method_101_code pp_296 0 cb_296_0 pp_296 = true := by decide +kernel
set_option maxRecDepth 100000 in
set_option maxHeartbeats 4000000 in
theorem pk_297 : pg_chk 12 false (some .int) prog_14_method_102_code pp_297 0 cb_297_0 pp_297 = true := by decide +kernel
set_option maxRecDepth 100000 in
set_option maxHeartbeats 4000000 in
theorem pk_298 : pg_chk 12 false (some .int) prog_14_method_103_code pp_298 0 cb_298_0 pp_298 = true := by decide +kernel
set_option maxRecDepth 100000 in
set_option maxHeartbeats 4000000 in
theorem pk_299 : pg_chk 12 false (some .int) prog_14_method_104_code pp_299 0 cb_299_0 pp_299 = true := by decide +kernel
set_option maxRecDepth 100000 in
set_option maxHeartbeats 4000000 in
theorem pk_300 : pg_chk 12 false (some .int) prog_14_method_105_code pp_300 0 cb_300_0 pp_300 = true := by decide +kernel
set_option maxRecDepth 100000 in
set_option maxHeartbeats 4000000 in
theorem pk_301 : pg_chk 12 false (some .int) prog_14_method_106_code pp_301 0 cb_301_0 pp_301 = true := by decide +kernel
set_option maxRecDepth 100000 in
set_option maxHeartbeats 4000000 in
theorem pk_302 : pg_chk 12 false (some .int) prog_14_method_107_code pp_302 0 cb_302_0 pp_302 = true := by decide +kernel
set_option maxRecDepth 100000 in
set_option maxHeartbeats 4000000 in
theorem pk_303 : pg_chk 12 false none prog_14_method_108_code pp_303 0 cb_303_0 pp_303 = true := by decide +kernel
set_option maxRecDepth 100000 in
set_option maxHeartbeats 4000000 in
theorem pk_304 : pg_chk 12 false (some .boolean) prog_14_method_109_code pp_304 0 cb_304_0 pp_304 = true := by decide +kernel
set_option maxRecDepth 100000 in
set_option maxHeartbeats 4000000 in
theorem pk_305 : pg_chk 12 false (some .int) prog_14_method_110_code pp_305 0 cb_305_0 pp_305 = true := by decide +kernel
set_option maxRecDepth 100000 in
set_option maxHeartbeats 4000000 in
theorem pk_306 : pg_chk 12 false (some .int) prog_14_method_111_code pp_306 0 cb_306_0 pp_306 = true := by decide +kernel
set_option maxRecDepth 100000 in
set_option maxHeartbeats 4000000 in
theorem pk_307 : pg_chk 12 false (some .int) prog_14_method_112_code pp_307 0 cb_307_0 pp_307 = true := by decide +kernel
set_option maxRecDepth 100000 in
set_option maxHeartbeats 4000000 in
theorem pk_308 : pg_chk 12 false none prog_14_method_113_code pp_308 0 cb_308_0 pp_308 = true := by decide +kernel
