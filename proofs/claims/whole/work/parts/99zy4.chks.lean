/-! ===== the checks, method by method (by wip/whole/mk_checks.py) ===== -/
set_option maxRecDepth 100000 in
set_option maxHeartbeats 4000000 in
theorem pk_309 : pg_chk 12 false (some .int) prog_14_method_114_code pp_309 0 cb_309_0 pp_309 = true := by decide +kernel
set_option maxRecDepth 100000 in
set_option maxHeartbeats 4000000 in
theorem pk_310 : pg_chk 12 false (some .int) prog_14_method_115_code pp_310 0 cb_310_0 pp_310 = true := by decide +kernel
set_option maxRecDepth 100000 in
set_option maxHeartbeats 4000000 in
theorem pk_311 : pg_chk 12 false (some .int) prog_14_method_116_code pp_311 0 cb_311_0 pp_311 = true := by decide +kernel
set_option maxRecDepth 100000 in
set_option maxHeartbeats 4000000 in
theorem pk_312 : pg_chk 12 false (some .int) prog_14_method_117_code pp_312 0 cb_312_0 pp_312 = true := by decide +kernel
set_option maxRecDepth 100000 in
set_option maxHeartbeats 4000000 in
theorem pk_313 : pg_chk 15 false (some .int) method_3_code pp_313 0 cb_313_0 pp_313 = true := by decide +kernel
set_option maxRecDepth 100000 in
set_option maxHeartbeats 4000000 in
theorem pk_314 : pg_chk 15 false (some .int) method_4_code pp_314 0 cb_314_0 pp_314 = true := by decide +kernel
set_option maxRecDepth 100000 in
set_option maxHeartbeats 4000000 in
theorem pk_315 : pg_chk 15 false (some .int) method_5_code pp_315 0 cb_315_0 pp_315 = true := by decide +kernel
set_option maxRecDepth 100000 in
set_option maxHeartbeats 4000000 in
theorem pk_316 : pg_chk 15 false (some .int) method_6_code pp_316 0 cb_316_0 pp_316 = true := by decide +kernel
set_option maxRecDepth 100000 in
set_option maxHeartbeats 4000000 in
theorem pk_317 : pg_chk 15 false (some .int) method_7_code pp_317 0 cb_317_0 pp_317 = true := by decide +kernel
set_option maxRecDepth 100000 in
set_option maxHeartbeats 4000000 in
theorem pk_318 : pg_chk 15 false (some .int) method_8_code pp_318 0 cb_318_0 pp_318 = true := by decide +kernel
set_option maxRecDepth 100000 in
set_option maxHeartbeats 4000000 in
theorem pk_319 : pg_chk 15 false (some .int) method_9_code pp_319 0 cb_319_0 pp_319 = true := by decide +kernel
set_option maxRecDepth 100000 in
set_option maxHeartbeats 4000000 in
theorem pk_320 : pg_chk 15 false (some .int) method_10_code pp_320 0 cb_320_0 pp_320 = true := by decide +kernel
set_option maxRecDepth 100000 in
set_option maxHeartbeats 4000000 in
theorem pk_321 : pg_chk 15 false (some .int) method_11_code pp_321 0 cb_321_0 pp_321 = true := by decide +kernel
set_option maxRecDepth 100000 in
set_option maxHeartbeats 4000000 in
theorem pk_322 : pg_chk 15 false (some .int) method_12_code pp_322 0 cb_322_0 pp_322 = true := by decide +kernel
set_option maxRecDepth 100000 in
set_option maxHeartbeats 4000000 in
theorem pk_323 : pg_chk 15 false (some .int) method_13_code pp_323 0 cb_323_0 pp_323 = true := by decide +kernel
set_option maxRecDepth 100000 in
set_option maxHeartbeats 4000000 in
theorem pk_324 : pg_chk 15 false (some .int) method_14_code pp_324 0 cb_324_0 pp_324 = true := by decide +kernel
set_option maxRecDepth 100000 in
set_option maxHeartbeats 4000000 in
theorem pk_325 : pg_chk 15 false (some .int) method_15_code pp_325 0 cb_325_0 pp_325 = true := by decide +kernel
set_option maxRecDepth 100000 in
set_option maxHeartbeats 4000000 in
theorem pk_326 : pg_chk 15 false (some .int) method_16_code pp_326 0 cb_326_0 pp_326 = true := by decide +kernel
set_option maxRecDepth 100000 in
set_option maxHeartbeats 4000000 in
theorem pk_327 : pg_chk 15 false (some .int) method_17_code pp_327 0 cb_327_0 pp_327 = true := by decide +kernel
set_option maxRecDepth 100000 in
set_option maxHeartbeats 4000000 in
theorem pk_328 : pg_chk 15 false (some .int) method_18_code pp_328 0 cb_328_0 pp_328 = true := by decide +kernel
set_option maxRecDepth 100000 in
set_option maxHeartbeats 4000000 in
theorem pk_329 : pg_chk 15 false (some .int) method_19_code pp_329 0 cb_329_0 pp_329 = true := by decide +kernel
set_option maxRecDepth 100000 in
set_option maxHeartbeats 4000000 in
theorem pk_330 : pg_chk 15 false (some .int) method_20_code pp_330 0 cb_330_0 pp_330 = true := by decide +kernel
set_option maxRecDepth 100000 in
set_option maxHeartbeats 4000000 in
theorem pk_331 : pg_chk 15 false (some .int) method_21_code pp_331 0 cb_331_0 pp_331 = true := by decide +kernel
set_option maxRecDepth 100000 in
set_option maxHeartbeats 4000000 in
theorem pk_332 : pg_chk 15 false (some .int) method_22_code pp_332 0 cb_332_0 pp_332 = true := by decide +kernel
set_option maxRecDepth 100000 in
set_option maxHeartbeats 4000000 in
theorem pk_333 : pg_chk 15 false (some .int) method_23_code pp_333 0 cb_333_0 pp_333 = true := by decide +kernel
set_option maxRecDepth 100000 in
set_option maxHeartbeats 4000000 in
theorem pk_334 : pg_chk 15 false (some .int) method_24_code pp_334 0 cb_334_0 pp_334 = true := by decide +kernel
set_option maxRecDepth 100000 in
set_option maxHeartbeats 4000000 in
theorem pk_335 : pg_chk 15 false (some .int) method_25_code pp_335 0 cb_335_0 pp_335 = true := by decide +kernel
set_option maxRecDepth 100000 in
set_option maxHeartbeats 4000000 in
theorem pk_336 : pg_chk 15 false (some .int) method_26_code pp_336 0 cb_336_0 pp_336 = true := by decide +kernel
set_option maxRecDepth 100000 in
set_option maxHeartbeats 4000000 in
theorem pk_337 : pg_chk 15 false (some .int) method_27_code pp_337 0 cb_337_0 pp_337 = true := by decide +kernel
set_option maxRecDepth 100000 in
set_option maxHeartbeats 4000000 in
theorem pk_338 : pg_chk 15 false (some .int) method_28_code pp_338 0 cb_338_0 pp_338 = true := by decide +kernel
set_option maxRecDepth 100000 in
set_option maxHeartbeats 4000000 in
theorem pk_339 : pg_chk 15 false (some .int) method_29_code pp_339 0 cb_339_0 pp_339 = true := by decide +kernel
set_option maxRecDepth 100000 in
set_option maxHeartbeats 4000000 in
theorem pk_340 : pg_chk 15 false (some .int) method_30_code pp_340 0 cb_340_0 pp_340 = true := by decide +kernel
