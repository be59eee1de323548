theorem lm_chk {α : Type} {p : α → Bool} {l : List α} (n : Nat) (h1 : (l.take n).all p = true) (h2 : (l.drop n).all p = true) : l.all p = true := by
  rw [← List.take_append_drop n l, List.all_append, h1, h2]; rfl
set_option maxRecDepth 1000000 in
set_option maxHeartbeats 0 in
theorem lm_kl0 : ((lm_r272.drop 0).take 60).all (lm_rok lm_e272) = true := by decide +kernel
set_option maxRecDepth 1000000 in
set_option maxHeartbeats 0 in
theorem lm_kl1 : ((lm_r272.drop 60).take 60).all (lm_rok lm_e272) = true := by decide +kernel
set_option maxRecDepth 1000000 in
set_option maxHeartbeats 0 in
theorem lm_kl2 : ((lm_r272.drop 120).take 60).all (lm_rok lm_e272) = true := by decide +kernel
set_option maxRecDepth 1000000 in
set_option maxHeartbeats 0 in
theorem lm_kl3 : ((lm_r272.drop 180).take 60).all (lm_rok lm_e272) = true := by decide +kernel
set_option maxRecDepth 1000000 in
set_option maxHeartbeats 0 in
theorem lm_kl4 : ((lm_r272.drop 240).take 60).all (lm_rok lm_e272) = true := by decide +kernel
set_option maxRecDepth 1000000 in
set_option maxHeartbeats 0 in
theorem lm_kl5 : ((lm_r272.drop 300).take 60).all (lm_rok lm_e272) = true := by decide +kernel
set_option maxRecDepth 1000000 in
set_option maxHeartbeats 0 in
theorem lm_kl6 : ((lm_r272.drop 360).take 60).all (lm_rok lm_e272) = true := by decide +kernel
set_option maxRecDepth 1000000 in
set_option maxHeartbeats 0 in
theorem lm_kl7 : ((lm_r272.drop 420).take 60).all (lm_rok lm_e272) = true := by decide +kernel
set_option maxRecDepth 1000000 in
set_option maxHeartbeats 0 in
theorem lm_kl8 : ((lm_r272.drop 480).take 60).all (lm_rok lm_e272) = true := by decide +kernel
set_option maxRecDepth 1000000 in
set_option maxHeartbeats 0 in
theorem lm_kl9 : ((lm_r272.drop 540).take 60).all (lm_rok lm_e272) = true := by decide +kernel
set_option maxRecDepth 1000000 in
set_option maxHeartbeats 0 in
theorem lm_kl10 : ((lm_r272.drop 600).take 60).all (lm_rok lm_e272) = true := by decide +kernel
set_option maxRecDepth 1000000 in
set_option maxHeartbeats 0 in
theorem lm_kl11 : ((lm_r272.drop 660).take 60).all (lm_rok lm_e272) = true := by decide +kernel
set_option maxRecDepth 1000000 in
set_option maxHeartbeats 0 in
theorem lm_kl12 : ((lm_r272.drop 720).take 60).all (lm_rok lm_e272) = true := by decide +kernel
set_option maxRecDepth 1000000 in
set_option maxHeartbeats 0 in
theorem lm_kl13 : ((lm_r272.drop 780).take 60).all (lm_rok lm_e272) = true := by decide +kernel
set_option maxRecDepth 1000000 in
set_option maxHeartbeats 0 in
theorem lm_kl14 : ((lm_r272.drop 840).take 60).all (lm_rok lm_e272) = true := by decide +kernel
set_option maxRecDepth 1000000 in
set_option maxHeartbeats 0 in
theorem lm_kl15 : ((lm_r272.drop 900).take 60).all (lm_rok lm_e272) = true := by decide +kernel
set_option maxRecDepth 1000000 in
set_option maxHeartbeats 0 in
theorem lm_kl16 : ((lm_r272.drop 960).take 60).all (lm_rok lm_e272) = true := by decide +kernel
set_option maxRecDepth 1000000 in
set_option maxHeartbeats 0 in
theorem lm_kl17 : ((lm_r272.drop 1020).take 60).all (lm_rok lm_e272) = true := by decide +kernel
set_option maxRecDepth 1000000 in
set_option maxHeartbeats 0 in
theorem lm_kl18 : ((lm_r272.drop 1080).take 60).all (lm_rok lm_e272) = true := by decide +kernel
set_option maxRecDepth 1000000 in
set_option maxHeartbeats 0 in
theorem lm_kl19 : ((lm_r272.drop 1140).take 60).all (lm_rok lm_e272) = true := by decide +kernel
set_option maxRecDepth 1000000 in
set_option maxHeartbeats 0 in
theorem lm_kl20 : ((lm_r272.drop 1200).take 60).all (lm_rok lm_e272) = true := by decide +kernel
set_option maxRecDepth 1000000 in
set_option maxHeartbeats 0 in
theorem lm_kl21 : ((lm_r272.drop 1260).take 60).all (lm_rok lm_e272) = true := by decide +kernel
set_option maxRecDepth 1000000 in
set_option maxHeartbeats 0 in
theorem lm_kl22 : ((lm_r272.drop 1320).take 60).all (lm_rok lm_e272) = true := by decide +kernel
theorem lm_kz : (lm_r272.drop 1380).all (lm_rok lm_e272) = true := by decide +kernel
theorem lm_ky22 : (lm_r272.drop 1320).all (lm_rok lm_e272) = true := lm_chk 60 lm_kl22 (by rw [List.drop_drop]; exact lm_kz)
theorem lm_ky21 : (lm_r272.drop 1260).all (lm_rok lm_e272) = true := lm_chk 60 lm_kl21 (by rw [List.drop_drop]; exact lm_ky22)
theorem lm_ky20 : (lm_r272.drop 1200).all (lm_rok lm_e272) = true := lm_chk 60 lm_kl20 (by rw [List.drop_drop]; exact lm_ky21)
theorem lm_ky19 : (lm_r272.drop 1140).all (lm_rok lm_e272) = true := lm_chk 60 lm_kl19 (by rw [List.drop_drop]; exact lm_ky20)
theorem lm_ky18 : (lm_r272.drop 1080).all (lm_rok lm_e272) = true := lm_chk 60 lm_kl18 (by rw [List.drop_drop]; exact lm_ky19)
theorem lm_ky17 : (lm_r272.drop 1020).all (lm_rok lm_e272) = true := lm_chk 60 lm_kl17 (by rw [List.drop_drop]; exact lm_ky18)
theorem lm_ky16 : (lm_r272.drop 960).all (lm_rok lm_e272) = true := lm_chk 60 lm_kl16 (by rw [List.drop_drop]; exact lm_ky17)
theorem lm_ky15 : (lm_r272.drop 900).all (lm_rok lm_e272) = true := lm_chk 60 lm_kl15 (by rw [List.drop_drop]; exact lm_ky16)
theorem lm_ky14 : (lm_r272.drop 840).all (lm_rok lm_e272) = true := lm_chk 60 lm_kl14 (by rw [List.drop_drop]; exact lm_ky15)
theorem lm_ky13 : (lm_r272.drop 780).all (lm_rok lm_e272) = true := lm_chk 60 lm_kl13 (by rw [List.drop_drop]; exact lm_ky14)
theorem lm_ky12 : (lm_r272.drop 720).all (lm_rok lm_e272) = true := lm_chk 60 lm_kl12 (by rw [List.drop_drop]; exact lm_ky13)
theorem lm_ky11 : (lm_r272.drop 660).all (lm_rok lm_e272) = true := lm_chk 60 lm_kl11 (by rw [List.drop_drop]; exact lm_ky12)
theorem lm_ky10 : (lm_r272.drop 600).all (lm_rok lm_e272) = true := lm_chk 60 lm_kl10 (by rw [List.drop_drop]; exact lm_ky11)
theorem lm_ky9 : (lm_r272.drop 540).all (lm_rok lm_e272) = true := lm_chk 60 lm_kl9 (by rw [List.drop_drop]; exact lm_ky10)
theorem lm_ky8 : (lm_r272.drop 480).all (lm_rok lm_e272) = true := lm_chk 60 lm_kl8 (by rw [List.drop_drop]; exact lm_ky9)
theorem lm_ky7 : (lm_r272.drop 420).all (lm_rok lm_e272) = true := lm_chk 60 lm_kl7 (by rw [List.drop_drop]; exact lm_ky8)
theorem lm_ky6 : (lm_r272.drop 360).all (lm_rok lm_e272) = true := lm_chk 60 lm_kl6 (by rw [List.drop_drop]; exact lm_ky7)
theorem lm_ky5 : (lm_r272.drop 300).all (lm_rok lm_e272) = true := lm_chk 60 lm_kl5 (by rw [List.drop_drop]; exact lm_ky6)
theorem lm_ky4 : (lm_r272.drop 240).all (lm_rok lm_e272) = true := lm_chk 60 lm_kl4 (by rw [List.drop_drop]; exact lm_ky5)
theorem lm_ky3 : (lm_r272.drop 180).all (lm_rok lm_e272) = true := lm_chk 60 lm_kl3 (by rw [List.drop_drop]; exact lm_ky4)
theorem lm_ky2 : (lm_r272.drop 120).all (lm_rok lm_e272) = true := lm_chk 60 lm_kl2 (by rw [List.drop_drop]; exact lm_ky3)
theorem lm_ky1 : (lm_r272.drop 60).all (lm_rok lm_e272) = true := lm_chk 60 lm_kl1 (by rw [List.drop_drop]; exact lm_ky2)
theorem lm_ky0 : (lm_r272.drop 0).all (lm_rok lm_e272) = true := lm_chk 60 lm_kl0 (by rw [List.drop_drop]; exact lm_ky1)
theorem lm_klaw : lm_r272.all (lm_rok lm_e272) = true := lm_ky0
