/-! ===== the law itself, piece by piece ===== -/
set_option maxRecDepth 100000 in
set_option maxHeartbeats 4000000 in
theorem pl_0 : pg_chk 15 false (some .boolean) code pp_341 0 ((cb_341_0.drop 0).take 40) (pp_341.drop 0) = true := by decide +kernel
set_option maxRecDepth 100000 in
set_option maxHeartbeats 4000000 in
theorem pl_40 : pg_chk 15 false (some .boolean) code pp_341 40 ((cb_341_0.drop 40).take 40) (pp_341.drop 40) = true := by decide +kernel
set_option maxRecDepth 100000 in
set_option maxHeartbeats 4000000 in
theorem pl_80 : pg_chk 15 false (some .boolean) code pp_341 80 ((cb_341_0.drop 80).take 40) (pp_341.drop 80) = true := by decide +kernel
set_option maxRecDepth 100000 in
set_option maxHeartbeats 4000000 in
theorem pl_120 : pg_chk 15 false (some .boolean) code pp_341 120 ((cb_341_0.drop 120).take 40) (pp_341.drop 120) = true := by decide +kernel
set_option maxRecDepth 100000 in
set_option maxHeartbeats 4000000 in
theorem pl_160 : pg_chk 15 false (some .boolean) code pp_341 160 ((cb_341_0.drop 160).take 40) (pp_341.drop 160) = true := by decide +kernel
set_option maxRecDepth 100000 in
set_option maxHeartbeats 4000000 in
theorem pl_200 : pg_chk 15 false (some .boolean) code pp_341 200 ((cb_341_0.drop 200).take 40) (pp_341.drop 200) = true := by decide +kernel
set_option maxRecDepth 100000 in
set_option maxHeartbeats 4000000 in
theorem pl_240 : pg_chk 15 false (some .boolean) code pp_341 240 ((cb_341_0.drop 240).take 40) (pp_341.drop 240) = true := by decide +kernel
set_option maxRecDepth 100000 in
set_option maxHeartbeats 4000000 in
theorem pl_280 : pg_chk 15 false (some .boolean) code pp_341 280 ((cb_341_0.drop 280).take 40) (pp_341.drop 280) = true := by decide +kernel
set_option maxRecDepth 100000 in
set_option maxHeartbeats 4000000 in
theorem pl_320 : pg_chk 15 false (some .boolean) code pp_341 320 ((cb_341_0.drop 320).take 40) (pp_341.drop 320) = true := by decide +kernel
set_option maxRecDepth 100000 in
set_option maxHeartbeats 4000000 in
theorem pl_360 : pg_chk 15 false (some .boolean) code pp_341 360 ((cb_341_0.drop 360).take 40) (pp_341.drop 360) = true := by decide +kernel
set_option maxRecDepth 100000 in
set_option maxHeartbeats 4000000 in
theorem pl_400 : pg_chk 15 false (some .boolean) code pp_341 400 ((cb_341_0.drop 400).take 40) (pp_341.drop 400) = true := by decide +kernel
set_option maxRecDepth 100000 in
set_option maxHeartbeats 4000000 in
theorem pl_440 : pg_chk 15 false (some .boolean) code pp_341 440 ((cb_341_0.drop 440).take 40) (pp_341.drop 440) = true := by decide +kernel
set_option maxRecDepth 100000 in
set_option maxHeartbeats 4000000 in
theorem pl_480 : pg_chk 15 false (some .boolean) code pp_341 480 ((cb_341_0.drop 480).take 40) (pp_341.drop 480) = true := by decide +kernel
set_option maxRecDepth 100000 in
set_option maxHeartbeats 4000000 in
theorem pl_520 : pg_chk 15 false (some .boolean) code pp_341 520 ((cb_341_0.drop 520).take 40) (pp_341.drop 520) = true := by decide +kernel
set_option maxRecDepth 100000 in
set_option maxHeartbeats 4000000 in
theorem pl_560 : pg_chk 15 false (some .boolean) code pp_341 560 ((cb_341_0.drop 560).take 40) (pp_341.drop 560) = true := by decide +kernel
set_option maxRecDepth 100000 in
set_option maxHeartbeats 4000000 in
theorem pl_600 : pg_chk 15 false (some .boolean) code pp_341 600 ((cb_341_0.drop 600).take 40) (pp_341.drop 600) = true := by decide +kernel
set_option maxRecDepth 100000 in
set_option maxHeartbeats 4000000 in
theorem pl_640 : pg_chk 15 false (some .boolean) code pp_341 640 ((cb_341_0.drop 640).take 40) (pp_341.drop 640) = true := by decide +kernel
set_option maxRecDepth 100000 in
set_option maxHeartbeats 4000000 in
theorem pl_680 : pg_chk 15 false (some .boolean) code pp_341 680 ((cb_341_0.drop 680).take 40) (pp_341.drop 680) = true := by decide +kernel
set_option maxRecDepth 100000 in
set_option maxHeartbeats 4000000 in
theorem pl_720 : pg_chk 15 false (some .boolean) code pp_341 720 ((cb_341_0.drop 720).take 40) (pp_341.drop 720) = true := by decide +kernel
set_option maxRecDepth 100000 in
set_option maxHeartbeats 4000000 in
theorem pl_760 : pg_chk 15 false (some .boolean) code pp_341 760 ((cb_341_0.drop 760).take 40) (pp_341.drop 760) = true := by decide +kernel
set_option maxRecDepth 100000 in
set_option maxHeartbeats 4000000 in
theorem pl_800 : pg_chk 15 false (some .boolean) code pp_341 800 ((cb_341_0.drop 800).take 40) (pp_341.drop 800) = true := by decide +kernel
set_option maxRecDepth 100000 in
set_option maxHeartbeats 4000000 in
theorem pl_840 : pg_chk 15 false (some .boolean) code pp_341 840 ((cb_341_0.drop 840).take 40) (pp_341.drop 840) = true := by decide +kernel
set_option maxRecDepth 100000 in
set_option maxHeartbeats 4000000 in
theorem pl_880 : pg_chk 15 false (some .boolean) code pp_341 880 ((cb_341_0.drop 880).take 40) (pp_341.drop 880) = true := by decide +kernel
set_option maxRecDepth 100000 in
set_option maxHeartbeats 4000000 in
theorem pl_920 : pg_chk 15 false (some .boolean) code pp_341 920 ((cb_341_0.drop 920).take 40) (pp_341.drop 920) = true := by decide +kernel
set_option maxRecDepth 100000 in
set_option maxHeartbeats 4000000 in
theorem pl_960 : pg_chk 15 false (some .boolean) code pp_341 960 ((cb_341_0.drop 960).take 40) (pp_341.drop 960) = true := by decide +kernel
set_option maxRecDepth 100000 in
set_option maxHeartbeats 4000000 in
theorem pl_1000 : pg_chk 15 false (some .boolean) code pp_341 1000 ((cb_341_0.drop 1000).take 40) (pp_341.drop 1000) = true := by decide +kernel
set_option maxRecDepth 100000 in
set_option maxHeartbeats 4000000 in
theorem pl_1040 : pg_chk 15 false (some .boolean) code pp_341 1040 ((cb_341_0.drop 1040).take 40) (pp_341.drop 1040) = true := by decide +kernel
set_option maxRecDepth 100000 in
set_option maxHeartbeats 4000000 in
theorem pl_1080 : pg_chk 15 false (some .boolean) code pp_341 1080 ((cb_341_0.drop 1080).take 40) (pp_341.drop 1080) = true := by decide +kernel
set_option maxRecDepth 100000 in
set_option maxHeartbeats 4000000 in
theorem pl_1120 : pg_chk 15 false (some .boolean) code pp_341 1120 ((cb_341_0.drop 1120).take 40) (pp_341.drop 1120) = true := by decide +kernel
set_option maxRecDepth 100000 in
set_option maxHeartbeats 4000000 in
theorem pl_1160 : pg_chk 15 false (some .boolean) code pp_341 1160 ((cb_341_0.drop 1160).take 40) (pp_341.drop 1160) = true := by decide +kernel
set_option maxRecDepth 100000 in
set_option maxHeartbeats 4000000 in
theorem pl_1200 : pg_chk 15 false (some .boolean) code pp_341 1200 ((cb_341_0.drop 1200).take 40) (pp_341.drop 1200) = true := by decide +kernel
set_option maxRecDepth 100000 in
set_option maxHeartbeats 4000000 in
theorem pl_1240 : pg_chk 15 false (some .boolean) code pp_341 1240 ((cb_341_0.drop 1240).take 40) (pp_341.drop 1240) = true := by decide +kernel
set_option maxRecDepth 100000 in
set_option maxHeartbeats 4000000 in
theorem pl_1280 : pg_chk 15 false (some .boolean) code pp_341 1280 ((cb_341_0.drop 1280).take 40) (pp_341.drop 1280) = true := by decide +kernel
set_option maxRecDepth 100000 in
set_option maxHeartbeats 4000000 in
theorem pl_1320 : pg_chk 15 false (some .boolean) code pp_341 1320 ((cb_341_0.drop 1320).take 40) (pp_341.drop 1320) = true := by decide +kernel
set_option maxRecDepth 100000 in
set_option maxHeartbeats 4000000 in
theorem pl_1360 : pg_chk 15 false (some .boolean) code pp_341 1360 ((cb_341_0.drop 1360).take 40) (pp_341.drop 1360) = true := by decide +kernel
set_option maxRecDepth 100000 in
set_option maxHeartbeats 4000000 in
theorem pl_1400 : pg_chk 15 false (some .boolean) code pp_341 1400 ((cb_341_0.drop 1400).take 40) (pp_341.drop 1400) = true := by decide +kernel
set_option maxRecDepth 100000 in
set_option maxHeartbeats 4000000 in
theorem pl_1440 : pg_chk 15 false (some .boolean) code pp_341 1440 ((cb_341_0.drop 1440).take 40) (pp_341.drop 1440) = true := by decide +kernel
