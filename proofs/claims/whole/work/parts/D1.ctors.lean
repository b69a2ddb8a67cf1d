-- the constructors, object by object (written by wip/tools/gen_ctor.py)
set_option maxRecDepth 4000 in
set_option maxHeartbeats 4000000 in
theorem c_2 (h : zHp) (d3 : h 3 = zdf 3) : zCall mX9_init 1 (1, 700) [zA 2] 3 h (fun r n2 h2 => r = none ∧ n2 = 4 ∧ zups h [(2, 0, 3), (2, 8, -1), (2, 9, -1)] = h2) := by
  refine z_enter [zA 2] (by decide +kernel) (Nat.le_of_ble_eq_true rfl) rfl (fun hra hrg => ?_)
  refine z_al0 eX9_init_0 ?_
  refine z_obj eX9_init_1 (zT1 37 rfl rfl) (zT1 28 rfl rfl) (zT1 29 rfl rfl) (by decide) (Nat.le_of_ble_eq_true rfl) ?_
  refine z_al0 eX9_init_4 ?_
  refine z_ki eX9_init_5 ?_
  refine z_newp (kd := 22) (sz := 700) (b1 := 0) (b2 := 0) eX9_init_8 (zT1 77 rfl rfl) rfl (by decide) zs3 (by decide) (by decide) (funext fun i => congrFun d3 i) ?_
  refine z_pr (t := 3) eX9_init_10 flX9_9 zs2 (by decide) (by decide) rfl ⟨_, rfl, rfl⟩ rfl ?_
  refine z_al0 eX9_init_13 ?_
  refine z_ki eX9_init_14 ?_
  refine z_pin eX9_init_15 pX9_15 zs2 (by decide) (by decide) ?_
  refine z_al0 eX9_init_18 ?_
  refine z_ki eX9_init_19 ?_
  refine z_pin eX9_init_20 pX9_19 zs2 (by decide) (by decide) ?_
  exact z_vretG eX9_init_23 rfl ⟨rfl, rfl, rfl⟩
set_option maxRecDepth 4000 in
set_option maxHeartbeats 4000000 in
theorem c_4 (h : zHp) (d5 : h 5 = zdf 5) (d6 : h 6 = zdf 6) (d7 : h 7 = zdf 7) (d8 : h 8 = zdf 8) (d9 : h 9 = zdf 9) (d10 : h 10 = zdf 10) (d11 : h 11 = zdf 11) (d12 : h 12 = zdf 12) (d13 : h 13 = zdf 13) : zCall mX5_init 1 (9, 412) [zA 4] 5 h (fun r n2 h2 => r = none ∧ n2 = 14 ∧ zups h [(4, 2, 5), (4, 3, 6), (4, 4, 7), (4, 5, 8), (4, 8, 9), (4, 9, 10), (4, 10, 11), (4, 11, 12), (4, 12, 13)] = h2) := by
  refine z_enter [zA 4] (by decide +kernel) (Nat.le_of_ble_eq_true rfl) rfl (fun hra hrg => ?_)
  refine z_al0 eX5_init_0 ?_
  refine z_obj eX5_init_1 (zT1 83 rfl rfl) (zT1 28 rfl rfl) (zT1 29 rfl rfl) (by decide) (Nat.le_of_ble_eq_true rfl) ?_
  refine z_al0 eX5_init_4 ?_
  refine z_ki eX5_init_5 ?_
  refine z_newp (kd := 21) (sz := 8) (b1 := 8) (b2 := 404) eX5_init_7 (zT1 155 rfl rfl) rfl (by decide) zs5 (by decide) (by decide) (funext fun i => congrFun d5 i) ?_
  refine z_pr (t := 5) eX5_init_9 flX5_9 zs4 (by decide) (by decide) rfl ⟨_, rfl, rfl⟩ rfl ?_
  refine z_al0 eX5_init_12 ?_
  refine z_ki eX5_init_13 ?_
  refine z_newp (kd := 20) (sz := 8) (b1 := 7) (b2 := 396) eX5_init_15 (zT1 156 rfl rfl) rfl (by decide) zs6 (by decide) (by decide) (funext fun i => congrFun d6 i) ?_
  refine z_pr (t := 6) eX5_init_17 flX5_15 zs4 (by decide) (by decide) rfl ⟨_, rfl, rfl⟩ rfl ?_
  refine z_al0 eX5_init_20 ?_
  refine z_ki eX5_init_21 ?_
  refine z_newp (kd := 20) (sz := 8) (b1 := 6) (b2 := 388) eX5_init_23 (zT1 156 rfl rfl) rfl (by decide) zs7 (by decide) (by decide) (funext fun i => congrFun d7 i) ?_
  refine z_pr (t := 7) eX5_init_25 flX5_19 zs4 (by decide) (by decide) rfl ⟨_, rfl, rfl⟩ rfl ?_
  refine z_al0 eX5_init_28 ?_
  refine z_ki eX5_init_29 ?_
  refine z_newp (kd := 20) (sz := 8) (b1 := 5) (b2 := 380) eX5_init_31 (zT1 156 rfl rfl) rfl (by decide) zs8 (by decide) (by decide) (funext fun i => congrFun d8 i) ?_
  refine z_pr (t := 8) eX5_init_33 flX5_22 zs4 (by decide) (by decide) rfl ⟨_, rfl, rfl⟩ rfl ?_
  refine z_al0 eX5_init_36 ?_
  refine z_ki eX5_init_37 ?_
  refine z_newp (kd := 20) (sz := 20) (b1 := 4) (b2 := 360) eX5_init_39 (zT1 156 rfl rfl) rfl (by decide) zs9 (by decide) (by decide) (funext fun i => congrFun d9 i) ?_
  refine z_pr (t := 9) eX5_init_41 flX5_25 zs4 (by decide) (by decide) rfl ⟨_, rfl, rfl⟩ rfl ?_
  refine z_al0 eX5_init_44 ?_
  refine z_ki eX5_init_45 ?_
  refine z_newp (kd := 20) (sz := 20) (b1 := 3) (b2 := 340) eX5_init_47 (zT1 156 rfl rfl) rfl (by decide) zs10 (by decide) (by decide) (funext fun i => congrFun d10 i) ?_
  refine z_pr (t := 10) eX5_init_49 flX5_28 zs4 (by decide) (by decide) rfl ⟨_, rfl, rfl⟩ rfl ?_
  refine z_al0 eX5_init_52 ?_
  refine z_ki eX5_init_53 ?_
  refine z_newp (kd := 20) (sz := 20) (b1 := 2) (b2 := 320) eX5_init_55 (zT1 156 rfl rfl) rfl (by decide) zs11 (by decide) (by decide) (funext fun i => congrFun d11 i) ?_
  refine z_pr (t := 11) eX5_init_57 flX5_31 zs4 (by decide) (by decide) rfl ⟨_, rfl, rfl⟩ rfl ?_
  refine z_al0 eX5_init_60 ?_
  refine z_ki eX5_init_61 ?_
  refine z_newp (kd := 20) (sz := 160) (b1 := 1) (b2 := 160) eX5_init_64 (zT1 156 rfl rfl) rfl (by decide) zs12 (by decide) (by decide) (funext fun i => congrFun d12 i) ?_
  refine z_pr (t := 12) eX5_init_66 flX5_34 zs4 (by decide) (by decide) rfl ⟨_, rfl, rfl⟩ rfl ?_
  refine z_al0 eX5_init_69 ?_
  refine z_ki eX5_init_70 ?_
  refine z_newp (kd := 20) (sz := 160) (b1 := 0) (b2 := 0) eX5_init_73 (zT1 156 rfl rfl) rfl (by decide) zs13 (by decide) (by decide) (funext fun i => congrFun d13 i) ?_
  refine z_pr (t := 13) eX5_init_75 flX5_37 zs4 (by decide) (by decide) rfl ⟨_, rfl, rfl⟩ rfl ?_
  exact z_vretG eX5_init_78 rfl ⟨rfl, rfl, rfl⟩
set_option maxRecDepth 4000 in
set_option maxHeartbeats 4000000 in
theorem c_14 (h : zHp) (d15 : h 15 = zdf 15) (d16 : h 16 = zdf 16) (d17 : h 17 = zdf 17) (d18 : h 18 = zdf 18) (d19 : h 19 = zdf 19) (d20 : h 20 = zdf 20) (d21 : h 21 = zdf 21) (d22 : h 22 = zdf 22) (d23 : h 23 = zdf 23) : zCall mX5_init 1 (9, 412) [zA 14] 15 h (fun r n2 h2 => r = none ∧ n2 = 24 ∧ zups h [(14, 2, 15), (14, 3, 16), (14, 4, 17), (14, 5, 18), (14, 8, 19), (14, 9, 20), (14, 10, 21), (14, 11, 22), (14, 12, 23)] = h2) := by
  refine z_enter [zA 14] (by decide +kernel) (Nat.le_of_ble_eq_true rfl) rfl (fun hra hrg => ?_)
  refine z_al0 eX5_init_0 ?_
  refine z_obj eX5_init_1 (zT1 83 rfl rfl) (zT1 28 rfl rfl) (zT1 29 rfl rfl) (by decide) (Nat.le_of_ble_eq_true rfl) ?_
  refine z_al0 eX5_init_4 ?_
  refine z_ki eX5_init_5 ?_
  refine z_newp (kd := 21) (sz := 8) (b1 := 8) (b2 := 404) eX5_init_7 (zT1 155 rfl rfl) rfl (by decide) zs15 (by decide) (by decide) (funext fun i => congrFun d15 i) ?_
  refine z_pr (t := 15) eX5_init_9 flX5_9 zs14 (by decide) (by decide) rfl ⟨_, rfl, rfl⟩ rfl ?_
  refine z_al0 eX5_init_12 ?_
  refine z_ki eX5_init_13 ?_
  refine z_newp (kd := 20) (sz := 8) (b1 := 7) (b2 := 396) eX5_init_15 (zT1 156 rfl rfl) rfl (by decide) zs16 (by decide) (by decide) (funext fun i => congrFun d16 i) ?_
  refine z_pr (t := 16) eX5_init_17 flX5_15 zs14 (by decide) (by decide) rfl ⟨_, rfl, rfl⟩ rfl ?_
  refine z_al0 eX5_init_20 ?_
  refine z_ki eX5_init_21 ?_
  refine z_newp (kd := 20) (sz := 8) (b1 := 6) (b2 := 388) eX5_init_23 (zT1 156 rfl rfl) rfl (by decide) zs17 (by decide) (by decide) (funext fun i => congrFun d17 i) ?_
  refine z_pr (t := 17) eX5_init_25 flX5_19 zs14 (by decide) (by decide) rfl ⟨_, rfl, rfl⟩ rfl ?_
  refine z_al0 eX5_init_28 ?_
  refine z_ki eX5_init_29 ?_
  refine z_newp (kd := 20) (sz := 8) (b1 := 5) (b2 := 380) eX5_init_31 (zT1 156 rfl rfl) rfl (by decide) zs18 (by decide) (by decide) (funext fun i => congrFun d18 i) ?_
  refine z_pr (t := 18) eX5_init_33 flX5_22 zs14 (by decide) (by decide) rfl ⟨_, rfl, rfl⟩ rfl ?_
  refine z_al0 eX5_init_36 ?_
  refine z_ki eX5_init_37 ?_
  refine z_newp (kd := 20) (sz := 20) (b1 := 4) (b2 := 360) eX5_init_39 (zT1 156 rfl rfl) rfl (by decide) zs19 (by decide) (by decide) (funext fun i => congrFun d19 i) ?_
  refine z_pr (t := 19) eX5_init_41 flX5_25 zs14 (by decide) (by decide) rfl ⟨_, rfl, rfl⟩ rfl ?_
  refine z_al0 eX5_init_44 ?_
  refine z_ki eX5_init_45 ?_
  refine z_newp (kd := 20) (sz := 20) (b1 := 3) (b2 := 340) eX5_init_47 (zT1 156 rfl rfl) rfl (by decide) zs20 (by decide) (by decide) (funext fun i => congrFun d20 i) ?_
  refine z_pr (t := 20) eX5_init_49 flX5_28 zs14 (by decide) (by decide) rfl ⟨_, rfl, rfl⟩ rfl ?_
  refine z_al0 eX5_init_52 ?_
  refine z_ki eX5_init_53 ?_
  refine z_newp (kd := 20) (sz := 20) (b1 := 2) (b2 := 320) eX5_init_55 (zT1 156 rfl rfl) rfl (by decide) zs21 (by decide) (by decide) (funext fun i => congrFun d21 i) ?_
  refine z_pr (t := 21) eX5_init_57 flX5_31 zs14 (by decide) (by decide) rfl ⟨_, rfl, rfl⟩ rfl ?_
  refine z_al0 eX5_init_60 ?_
  refine z_ki eX5_init_61 ?_
  refine z_newp (kd := 20) (sz := 160) (b1 := 1) (b2 := 160) eX5_init_64 (zT1 156 rfl rfl) rfl (by decide) zs22 (by decide) (by decide) (funext fun i => congrFun d22 i) ?_
  refine z_pr (t := 22) eX5_init_66 flX5_34 zs14 (by decide) (by decide) rfl ⟨_, rfl, rfl⟩ rfl ?_
  refine z_al0 eX5_init_69 ?_
  refine z_ki eX5_init_70 ?_
  refine z_newp (kd := 20) (sz := 160) (b1 := 0) (b2 := 0) eX5_init_73 (zT1 156 rfl rfl) rfl (by decide) zs23 (by decide) (by decide) (funext fun i => congrFun d23 i) ?_
  refine z_pr (t := 23) eX5_init_75 flX5_37 zs14 (by decide) (by decide) rfl ⟨_, rfl, rfl⟩ rfl ?_
  exact z_vretG eX5_init_78 rfl ⟨rfl, rfl, rfl⟩
set_option maxRecDepth 4000 in
set_option maxHeartbeats 4000000 in
theorem c_24 (h : zHp) (d25 : h 25 = zdf 25) (d26 : h 26 = zdf 26) (d27 : h 27 = zdf 27) : zCall mX7_init 1 (3, 40) [zA 24] 25 h (fun r n2 h2 => r = none ∧ n2 = 28 ∧ zups h [(24, 0, 1), (24, 1, 25), (24, 2, 26), (24, 3, 27), (26, 0, 1), (27, 0, 1)] = h2) := by
  refine z_enter [zA 24] (by decide +kernel) (Nat.le_of_ble_eq_true rfl) rfl (fun hra hrg => ?_)
  refine z_al0 eX7_init_0 ?_
  refine z_obj eX7_init_1 (zT1 162 rfl rfl) (zT1 28 rfl rfl) (zT1 29 rfl rfl) (by decide) (Nat.le_of_ble_eq_true rfl) ?_
  refine z_al0 eX7_init_4 ?_
  refine z_ki eX7_init_5 ?_
  refine z_pin eX7_init_6 pX7_9 zs24 (by decide) (by decide) ?_
  refine z_al0 eX7_init_9 ?_
  refine z_ki eX7_init_10 ?_
  refine z_newp (kd := 20) (sz := 4) (b1 := 2) (b2 := 36) eX7_init_11 (zT1 156 rfl rfl) rfl (by decide) zs25 (by decide) (by decide) (funext fun i => congrFun d25 i) ?_
  refine z_pr (t := 25) eX7_init_13 flX7_15 zs24 (by decide) (by decide) rfl ⟨_, rfl, rfl⟩ rfl ?_
  refine z_al0 eX7_init_16 ?_
  refine z_ki eX7_init_17 ?_
  refine z_newp (kd := 20) (sz := 4) (b1 := 1) (b2 := 32) eX7_init_18 (zT1 156 rfl rfl) rfl (by decide) zs26 (by decide) (by decide) (funext fun i => congrFun d26 i) ?_
  refine z_pr (t := 26) eX7_init_20 flX7_19 zs24 (by decide) (by decide) rfl ⟨_, rfl, rfl⟩ rfl ?_
  refine z_al0 eX7_init_23 ?_
  refine z_ki eX7_init_24 ?_
  refine z_newp (kd := 20) (sz := 32) (b1 := 0) (b2 := 0) eX7_init_26 (zT1 156 rfl rfl) rfl (by decide) zs27 (by decide) (by decide) (funext fun i => congrFun d27 i) ?_
  refine z_pr (t := 27) eX7_init_28 flX7_22 zs24 (by decide) (by decide) rfl ⟨_, rfl, rfl⟩ rfl ?_
  refine z_al0 eX7_init_31 ?_
  refine z_gr (t := 26) eX7_init_32 fX7_19 zs24 (by decide) (by decide) rfl ?_
  refine z_ki eX7_init_35 ?_
  refine z_ki eX7_init_36 ?_
  refine z_iast eX7_init_37 zs26 (by decide) (by decide) (by decide) ?_
  refine z_al0 eX7_init_38 ?_
  refine z_gr (t := 27) eX7_init_39 fX7_22 zs24 (by decide) (by decide) rfl ?_
  refine z_ki eX7_init_42 ?_
  refine z_ki eX7_init_43 ?_
  refine z_iast eX7_init_44 zs27 (by decide) (by decide) (by decide) ?_
  exact z_vretG eX7_init_45 rfl ⟨rfl, rfl, rfl⟩
set_option maxRecDepth 4000 in
set_option maxHeartbeats 4000000 in
theorem c_28 (h : zHp) (d29 : h 29 = zdf 29) (d30 : h 30 = zdf 30) (d31 : h 31 = zdf 31) : zCall mX7_init 1 (3, 40) [zA 28] 29 h (fun r n2 h2 => r = none ∧ n2 = 32 ∧ zups h [(28, 0, 1), (28, 1, 29), (28, 2, 30), (28, 3, 31), (30, 0, 1), (31, 0, 1)] = h2) := by
  refine z_enter [zA 28] (by decide +kernel) (Nat.le_of_ble_eq_true rfl) rfl (fun hra hrg => ?_)
  refine z_al0 eX7_init_0 ?_
  refine z_obj eX7_init_1 (zT1 162 rfl rfl) (zT1 28 rfl rfl) (zT1 29 rfl rfl) (by decide) (Nat.le_of_ble_eq_true rfl) ?_
  refine z_al0 eX7_init_4 ?_
  refine z_ki eX7_init_5 ?_
  refine z_pin eX7_init_6 pX7_9 zs28 (by decide) (by decide) ?_
  refine z_al0 eX7_init_9 ?_
  refine z_ki eX7_init_10 ?_
  refine z_newp (kd := 20) (sz := 4) (b1 := 2) (b2 := 36) eX7_init_11 (zT1 156 rfl rfl) rfl (by decide) zs29 (by decide) (by decide) (funext fun i => congrFun d29 i) ?_
  refine z_pr (t := 29) eX7_init_13 flX7_15 zs28 (by decide) (by decide) rfl ⟨_, rfl, rfl⟩ rfl ?_
  refine z_al0 eX7_init_16 ?_
  refine z_ki eX7_init_17 ?_
  refine z_newp (kd := 20) (sz := 4) (b1 := 1) (b2 := 32) eX7_init_18 (zT1 156 rfl rfl) rfl (by decide) zs30 (by decide) (by decide) (funext fun i => congrFun d30 i) ?_
  refine z_pr (t := 30) eX7_init_20 flX7_19 zs28 (by decide) (by decide) rfl ⟨_, rfl, rfl⟩ rfl ?_
  refine z_al0 eX7_init_23 ?_
  refine z_ki eX7_init_24 ?_
  refine z_newp (kd := 20) (sz := 32) (b1 := 0) (b2 := 0) eX7_init_26 (zT1 156 rfl rfl) rfl (by decide) zs31 (by decide) (by decide) (funext fun i => congrFun d31 i) ?_
  refine z_pr (t := 31) eX7_init_28 flX7_22 zs28 (by decide) (by decide) rfl ⟨_, rfl, rfl⟩ rfl ?_
  refine z_al0 eX7_init_31 ?_
  refine z_gr (t := 30) eX7_init_32 fX7_19 zs28 (by decide) (by decide) rfl ?_
  refine z_ki eX7_init_35 ?_
  refine z_ki eX7_init_36 ?_
  refine z_iast eX7_init_37 zs30 (by decide) (by decide) (by decide) ?_
  refine z_al0 eX7_init_38 ?_
  refine z_gr (t := 31) eX7_init_39 fX7_22 zs28 (by decide) (by decide) rfl ?_
  refine z_ki eX7_init_42 ?_
  refine z_ki eX7_init_43 ?_
  refine z_iast eX7_init_44 zs31 (by decide) (by decide) (by decide) ?_
  exact z_vretG eX7_init_45 rfl ⟨rfl, rfl, rfl⟩
set_option maxRecDepth 4000 in
set_option maxHeartbeats 4000000 in
theorem c_32 (h : zHp) (d33 : h 33 = zdf 33) (d34 : h 34 = zdf 34) (d35 : h 35 = zdf 35) (d36 : h 36 = zdf 36) (d37 : h 37 = zdf 37) (d38 : h 38 = zdf 38) (d39 : h 39 = zdf 39) : zCall mX0_init 1 (7, 483) [zA 32] 33 h (fun r n2 h2 => r = none ∧ n2 = 40 ∧ zups h [(32, 3, 33), (32, 4, 34), (32, 5, 35), (32, 6, 36), (32, 7, 37), (32, 8, 38), (32, 9, 39)] = h2) := by
  refine z_enter [zA 32] (by decide +kernel) (Nat.le_of_ble_eq_true rfl) rfl (fun hra hrg => ?_)
  refine z_al0 eX0_init_0 ?_
  refine z_obj eX0_init_1 (zT1 186 rfl rfl) (zT1 28 rfl rfl) (zT1 29 rfl rfl) (by decide) (Nat.le_of_ble_eq_true rfl) ?_
  refine z_al0 eX0_init_4 ?_
  refine z_ki eX0_init_5 ?_
  refine z_newp (kd := 20) (sz := 80) (b1 := 6) (b2 := 403) eX0_init_7 (zT1 156 rfl rfl) rfl (by decide) zs33 (by decide) (by decide) (funext fun i => congrFun d33 i) ?_
  refine z_pr (t := 33) eX0_init_9 flX0_11 zs32 (by decide) (by decide) rfl ⟨_, rfl, rfl⟩ rfl ?_
  refine z_al0 eX0_init_12 ?_
  refine z_ki eX0_init_13 ?_
  refine z_newp (kd := 20) (sz := 80) (b1 := 5) (b2 := 323) eX0_init_15 (zT1 156 rfl rfl) rfl (by decide) zs34 (by decide) (by decide) (funext fun i => congrFun d34 i) ?_
  refine z_pr (t := 34) eX0_init_17 flX0_15 zs32 (by decide) (by decide) rfl ⟨_, rfl, rfl⟩ rfl ?_
  refine z_al0 eX0_init_20 ?_
  refine z_ki eX0_init_21 ?_
  refine z_newp (kd := 20) (sz := 80) (b1 := 4) (b2 := 243) eX0_init_23 (zT1 156 rfl rfl) rfl (by decide) zs35 (by decide) (by decide) (funext fun i => congrFun d35 i) ?_
  refine z_pr (t := 35) eX0_init_25 flX0_18 zs32 (by decide) (by decide) rfl ⟨_, rfl, rfl⟩ rfl ?_
  refine z_al0 eX0_init_28 ?_
  refine z_ki eX0_init_29 ?_
  refine z_newp (kd := 21) (sz := 80) (b1 := 3) (b2 := 163) eX0_init_31 (zT1 155 rfl rfl) rfl (by decide) zs36 (by decide) (by decide) (funext fun i => congrFun d36 i) ?_
  refine z_pr (t := 36) eX0_init_33 flX0_21 zs32 (by decide) (by decide) rfl ⟨_, rfl, rfl⟩ rfl ?_
  refine z_al0 eX0_init_36 ?_
  refine z_ki eX0_init_37 ?_
  refine z_newp (kd := 23) (sz := 80) (b1 := 2) (b2 := 83) eX0_init_39 (zT1 230 rfl rfl) rfl (by decide) zs37 (by decide) (by decide) (funext fun i => congrFun d37 i) ?_
  refine z_pr (t := 37) eX0_init_41 flX0_25 zs32 (by decide) (by decide) rfl ⟨_, rfl, rfl⟩ rfl ?_
  refine z_al0 eX0_init_44 ?_
  refine z_ki eX0_init_45 ?_
  refine z_newp (kd := 20) (sz := 80) (b1 := 1) (b2 := 3) eX0_init_47 (zT1 156 rfl rfl) rfl (by decide) zs38 (by decide) (by decide) (funext fun i => congrFun d38 i) ?_
  refine z_pr (t := 38) eX0_init_49 flX0_29 zs32 (by decide) (by decide) rfl ⟨_, rfl, rfl⟩ rfl ?_
  refine z_al0 eX0_init_52 ?_
  refine z_ki eX0_init_53 ?_
  refine z_newp (kd := 20) (sz := 3) (b1 := 0) (b2 := 0) eX0_init_54 (zT1 156 rfl rfl) rfl (by decide) zs39 (by decide) (by decide) (funext fun i => congrFun d39 i) ?_
  refine z_pr (t := 39) eX0_init_56 flX0_32 zs32 (by decide) (by decide) rfl ⟨_, rfl, rfl⟩ rfl ?_
  exact z_vretG eX0_init_59 rfl ⟨rfl, rfl, rfl⟩
set_option maxRecDepth 4000 in
set_option maxHeartbeats 4000000 in
theorem c_40 (h : zHp) (d41 : h 41 = zdf 41) (d42 : h 42 = zdf 42) (d43 : h 43 = zdf 43) (d44 : h 44 = zdf 44) (d45 : h 45 = zdf 45) (d46 : h 46 = zdf 46) (d47 : h 47 = zdf 47) : zCall mX0_init 1 (7, 483) [zA 40] 41 h (fun r n2 h2 => r = none ∧ n2 = 48 ∧ zups h [(40, 3, 41), (40, 4, 42), (40, 5, 43), (40, 6, 44), (40, 7, 45), (40, 8, 46), (40, 9, 47)] = h2) := by
  refine z_enter [zA 40] (by decide +kernel) (Nat.le_of_ble_eq_true rfl) rfl (fun hra hrg => ?_)
  refine z_al0 eX0_init_0 ?_
  refine z_obj eX0_init_1 (zT1 186 rfl rfl) (zT1 28 rfl rfl) (zT1 29 rfl rfl) (by decide) (Nat.le_of_ble_eq_true rfl) ?_
  refine z_al0 eX0_init_4 ?_
  refine z_ki eX0_init_5 ?_
  refine z_newp (kd := 20) (sz := 80) (b1 := 6) (b2 := 403) eX0_init_7 (zT1 156 rfl rfl) rfl (by decide) zs41 (by decide) (by decide) (funext fun i => congrFun d41 i) ?_
  refine z_pr (t := 41) eX0_init_9 flX0_11 zs40 (by decide) (by decide) rfl ⟨_, rfl, rfl⟩ rfl ?_
  refine z_al0 eX0_init_12 ?_
  refine z_ki eX0_init_13 ?_
  refine z_newp (kd := 20) (sz := 80) (b1 := 5) (b2 := 323) eX0_init_15 (zT1 156 rfl rfl) rfl (by decide) zs42 (by decide) (by decide) (funext fun i => congrFun d42 i) ?_
  refine z_pr (t := 42) eX0_init_17 flX0_15 zs40 (by decide) (by decide) rfl ⟨_, rfl, rfl⟩ rfl ?_
  refine z_al0 eX0_init_20 ?_
  refine z_ki eX0_init_21 ?_
  refine z_newp (kd := 20) (sz := 80) (b1 := 4) (b2 := 243) eX0_init_23 (zT1 156 rfl rfl) rfl (by decide) zs43 (by decide) (by decide) (funext fun i => congrFun d43 i) ?_
  refine z_pr (t := 43) eX0_init_25 flX0_18 zs40 (by decide) (by decide) rfl ⟨_, rfl, rfl⟩ rfl ?_
  refine z_al0 eX0_init_28 ?_
  refine z_ki eX0_init_29 ?_
  refine z_newp (kd := 21) (sz := 80) (b1 := 3) (b2 := 163) eX0_init_31 (zT1 155 rfl rfl) rfl (by decide) zs44 (by decide) (by decide) (funext fun i => congrFun d44 i) ?_
  refine z_pr (t := 44) eX0_init_33 flX0_21 zs40 (by decide) (by decide) rfl ⟨_, rfl, rfl⟩ rfl ?_
  refine z_al0 eX0_init_36 ?_
  refine z_ki eX0_init_37 ?_
  refine z_newp (kd := 23) (sz := 80) (b1 := 2) (b2 := 83) eX0_init_39 (zT1 230 rfl rfl) rfl (by decide) zs45 (by decide) (by decide) (funext fun i => congrFun d45 i) ?_
  refine z_pr (t := 45) eX0_init_41 flX0_25 zs40 (by decide) (by decide) rfl ⟨_, rfl, rfl⟩ rfl ?_
  refine z_al0 eX0_init_44 ?_
  refine z_ki eX0_init_45 ?_
  refine z_newp (kd := 20) (sz := 80) (b1 := 1) (b2 := 3) eX0_init_47 (zT1 156 rfl rfl) rfl (by decide) zs46 (by decide) (by decide) (funext fun i => congrFun d46 i) ?_
  refine z_pr (t := 46) eX0_init_49 flX0_29 zs40 (by decide) (by decide) rfl ⟨_, rfl, rfl⟩ rfl ?_
  refine z_al0 eX0_init_52 ?_
  refine z_ki eX0_init_53 ?_
  refine z_newp (kd := 20) (sz := 3) (b1 := 0) (b2 := 0) eX0_init_54 (zT1 156 rfl rfl) rfl (by decide) zs47 (by decide) (by decide) (funext fun i => congrFun d47 i) ?_
  refine z_pr (t := 47) eX0_init_56 flX0_32 zs40 (by decide) (by decide) rfl ⟨_, rfl, rfl⟩ rfl ?_
  exact z_vretG eX0_init_59 rfl ⟨rfl, rfl, rfl⟩
set_option maxRecDepth 4000 in
set_option maxHeartbeats 4000000 in
theorem c_50 (h : zHp) (d51 : h 51 = zdf 51) (d52 : h 52 = zdf 52) (d53 : h 53 = zdf 53) : zCall mX2_init 1 (3, 48) [zA 50, zA 4, zA 24] 51 h (fun r n2 h2 => r = none ∧ n2 = 54 ∧ zups h [(50, 2, 51), (50, 3, 52), (50, 4, 53), (50, 0, 4), (50, 1, 24)] = h2) := by
  refine z_enter [zA 50, zA 4, zA 24] (by decide +kernel) (Nat.le_of_ble_eq_true rfl) rfl (fun hra hrg => ?_)
  refine z_al0 eX2_init_0 ?_
  refine z_obj eX2_init_1 (zT1 238 rfl rfl) (zT1 28 rfl rfl) (zT1 29 rfl rfl) (by decide) (Nat.le_of_ble_eq_true rfl) ?_
  refine z_al0 eX2_init_4 ?_
  refine z_ki eX2_init_5 ?_
  refine z_newp (kd := 20) (sz := 8) (b1 := 2) (b2 := 40) eX2_init_7 (zT1 156 rfl rfl) rfl (by decide) zs51 (by decide) (by decide) (funext fun i => congrFun d51 i) ?_
  refine z_pr (t := 51) eX2_init_9 flX2_9 zs50 (by decide) (by decide) rfl ⟨_, rfl, rfl⟩ rfl ?_
  refine z_al0 eX2_init_12 ?_
  refine z_ki eX2_init_13 ?_
  refine z_newp (kd := 20) (sz := 20) (b1 := 1) (b2 := 20) eX2_init_15 (zT1 156 rfl rfl) rfl (by decide) zs52 (by decide) (by decide) (funext fun i => congrFun d52 i) ?_
  refine z_pr (t := 52) eX2_init_17 flX2_15 zs50 (by decide) (by decide) rfl ⟨_, rfl, rfl⟩ rfl ?_
  refine z_al0 eX2_init_20 ?_
  refine z_ki eX2_init_21 ?_
  refine z_newp (kd := 20) (sz := 20) (b1 := 0) (b2 := 0) eX2_init_23 (zT1 156 rfl rfl) rfl (by decide) zs53 (by decide) (by decide) (funext fun i => congrFun d53 i) ?_
  refine z_pr (t := 53) eX2_init_25 flX2_18 zs50 (by decide) (by decide) rfl ⟨_, rfl, rfl⟩ rfl ?_
  refine z_al0 eX2_init_28 ?_
  refine z_al1 eX2_init_29 ?_
  refine z_pr (t := 4) eX2_init_30 flX2_21 zs50 (by decide) (by decide) rfl ⟨_, rfl, rfl⟩ rfl ?_
  refine z_al0 eX2_init_33 ?_
  refine z_al2 eX2_init_34 ?_
  refine z_pr (t := 24) eX2_init_35 flX2_25 zs50 (by decide) (by decide) rfl ⟨_, rfl, rfl⟩ rfl ?_
  exact z_vretG eX2_init_38 rfl ⟨rfl, rfl, rfl⟩
set_option maxRecDepth 4000 in
set_option maxHeartbeats 4000000 in
theorem c_54 (h : zHp) (d55 : h 55 = zdf 55) (d56 : h 56 = zdf 56) (d57 : h 57 = zdf 57) : zCall mX8_init 1 (3, 44) [zA 54, zA 4, zA 50] 55 h (fun r n2 h2 => r = none ∧ n2 = 58 ∧ zups h [(54, 6, 55), (54, 7, 56), (54, 11, 57), (54, 0, 4), (54, 1, 50)] = h2) := by
  refine z_enter [zA 54, zA 4, zA 50] (by decide +kernel) (Nat.le_of_ble_eq_true rfl) rfl (fun hra hrg => ?_)
  refine z_al0 eX8_init_0 ?_
  refine z_obj eX8_init_1 (zT2 20 rfl rfl) (zT1 28 rfl rfl) (zT1 29 rfl rfl) (by decide) (Nat.le_of_ble_eq_true rfl) ?_
  refine z_al0 eX8_init_4 ?_
  refine z_ki eX8_init_5 ?_
  refine z_newp (kd := 20) (sz := 12) (b1 := 2) (b2 := 32) eX8_init_7 (zT1 156 rfl rfl) rfl (by decide) zs55 (by decide) (by decide) (funext fun i => congrFun d55 i) ?_
  refine z_pr (t := 55) eX8_init_9 flX8_9 zs54 (by decide) (by decide) rfl ⟨_, rfl, rfl⟩ rfl ?_
  refine z_al0 eX8_init_12 ?_
  refine z_ki eX8_init_13 ?_
  refine z_newp (kd := 20) (sz := 20) (b1 := 1) (b2 := 12) eX8_init_15 (zT1 156 rfl rfl) rfl (by decide) zs56 (by decide) (by decide) (funext fun i => congrFun d56 i) ?_
  refine z_pr (t := 56) eX8_init_17 flX8_15 zs54 (by decide) (by decide) rfl ⟨_, rfl, rfl⟩ rfl ?_
  refine z_al0 eX8_init_20 ?_
  refine z_ki eX8_init_21 ?_
  refine z_newp (kd := 20) (sz := 12) (b1 := 0) (b2 := 0) eX8_init_23 (zT1 156 rfl rfl) rfl (by decide) zs57 (by decide) (by decide) (funext fun i => congrFun d57 i) ?_
  refine z_pr (t := 57) eX8_init_25 flX8_18 zs54 (by decide) (by decide) rfl ⟨_, rfl, rfl⟩ rfl ?_
  refine z_al0 eX8_init_28 ?_
  refine z_al1 eX8_init_29 ?_
  refine z_pr (t := 4) eX8_init_30 flX8_21 zs54 (by decide) (by decide) rfl ⟨_, rfl, rfl⟩ rfl ?_
  refine z_al0 eX8_init_33 ?_
  refine z_al2 eX8_init_34 ?_
  refine z_pr (t := 50) eX8_init_35 flX8_25 zs54 (by decide) (by decide) rfl ⟨_, rfl, rfl⟩ rfl ?_
  exact z_vretG eX8_init_38 rfl ⟨rfl, rfl, rfl⟩
set_option maxRecDepth 4000 in
set_option maxHeartbeats 4000000 in
theorem c_58 (h : zHp) (d59 : h 59 = zdf 59) : zCall mX4_init 1 (1, 12) [zA 58] 59 h (fun r n2 h2 => r = none ∧ n2 = 60 ∧ zups h [(58, 0, 0), (58, 4, 59)] = h2) := by
  refine z_enter [zA 58] (by decide +kernel) (Nat.le_of_ble_eq_true rfl) rfl (fun hra hrg => ?_)
  refine z_al0 eX4_init_0 ?_
  refine z_obj eX4_init_1 (zT2 67 rfl rfl) (zT1 28 rfl rfl) (zT1 29 rfl rfl) (by decide) (Nat.le_of_ble_eq_true rfl) ?_
  refine z_al0 eX4_init_4 ?_
  refine z_ki eX4_init_5 ?_
  refine z_pin eX4_init_6 pX4_11 zs58 (by decide) (by decide) ?_
  refine z_al0 eX4_init_9 ?_
  refine z_ki eX4_init_10 ?_
  refine z_newp (kd := 20) (sz := 12) (b1 := 0) (b2 := 0) eX4_init_12 (zT1 156 rfl rfl) rfl (by decide) zs59 (by decide) (by decide) (funext fun i => congrFun d59 i) ?_
  refine z_pr (t := 59) eX4_init_14 flX4_15 zs58 (by decide) (by decide) rfl ⟨_, rfl, rfl⟩ rfl ?_
  exact z_vretG eX4_init_17 rfl ⟨rfl, rfl, rfl⟩
set_option maxRecDepth 4000 in
set_option maxHeartbeats 4000000 in
theorem c_60 (h : zHp) (d61 : h 61 = zdf 61) (d62 : h 62 = zdf 62) : zCall mX6_init 1 (2, 512) [zA 60, zA 4, zA 50] 61 h (fun r n2 h2 => r = none ∧ n2 = 63 ∧ zups h [(60, 2, 61), (60, 3, 62), (60, 5, -1), (60, 0, 4), (60, 1, 50)] = h2) := by
  refine z_enter [zA 60, zA 4, zA 50] (by decide +kernel) (Nat.le_of_ble_eq_true rfl) rfl (fun hra hrg => ?_)
  refine z_al0 eX6_init_0 ?_
  refine z_obj eX6_init_1 (zT2 94 rfl rfl) (zT1 28 rfl rfl) (zT1 29 rfl rfl) (by decide) (Nat.le_of_ble_eq_true rfl) ?_
  refine z_al0 eX6_init_4 ?_
  refine z_ki eX6_init_5 ?_
  refine z_newp (kd := 23) (sz := 256) (b1 := 1) (b2 := 256) eX6_init_8 (zT1 230 rfl rfl) rfl (by decide) zs61 (by decide) (by decide) (funext fun i => congrFun d61 i) ?_
  refine z_pr (t := 61) eX6_init_10 flX6_11 zs60 (by decide) (by decide) rfl ⟨_, rfl, rfl⟩ rfl ?_
  refine z_al0 eX6_init_13 ?_
  refine z_ki eX6_init_14 ?_
  refine z_newp (kd := 23) (sz := 256) (b1 := 0) (b2 := 0) eX6_init_17 (zT1 230 rfl rfl) rfl (by decide) zs62 (by decide) (by decide) (funext fun i => congrFun d62 i) ?_
  refine z_pr (t := 62) eX6_init_19 flX6_15 zs60 (by decide) (by decide) rfl ⟨_, rfl, rfl⟩ rfl ?_
  refine z_al0 eX6_init_22 ?_
  refine z_ki eX6_init_23 ?_
  refine z_pin eX6_init_24 pX6_18 zs60 (by decide) (by decide) ?_
  refine z_al0 eX6_init_27 ?_
  refine z_al1 eX6_init_28 ?_
  refine z_pr (t := 4) eX6_init_29 flX6_22 zs60 (by decide) (by decide) rfl ⟨_, rfl, rfl⟩ rfl ?_
  refine z_al0 eX6_init_32 ?_
  refine z_al2 eX6_init_33 ?_
  refine z_pr (t := 50) eX6_init_34 flX6_26 zs60 (by decide) (by decide) rfl ⟨_, rfl, rfl⟩ rfl ?_
  exact z_vretG eX6_init_37 rfl ⟨rfl, rfl, rfl⟩
set_option maxRecDepth 4000 in
set_option maxHeartbeats 4000000 in
theorem c_63 (h : zHp) (d64 : h 64 = zdf 64) : zCall mX1_init 1 (1, 20) [zA 63, zA 4, zA 50] 64 h (fun r n2 h2 => r = none ∧ n2 = 65 ∧ zups h [(63, 2, 64), (63, 5, 0), (63, 6, 1), (63, 0, 4), (63, 1, 50)] = h2) := by
  refine z_enter [zA 63, zA 4, zA 50] (by decide +kernel) (Nat.le_of_ble_eq_true rfl) rfl (fun hra hrg => ?_)
  refine z_al0 eX1_init_0 ?_
  refine z_obj eX1_init_1 (zT2 121 rfl rfl) (zT1 28 rfl rfl) (zT1 29 rfl rfl) (by decide) (Nat.le_of_ble_eq_true rfl) ?_
  refine z_al0 eX1_init_4 ?_
  refine z_ki eX1_init_5 ?_
  refine z_newp (kd := 20) (sz := 20) (b1 := 0) (b2 := 0) eX1_init_7 (zT1 156 rfl rfl) rfl (by decide) zs64 (by decide) (by decide) (funext fun i => congrFun d64 i) ?_
  refine z_pr (t := 64) eX1_init_9 flX1_9 zs63 (by decide) (by decide) rfl ⟨_, rfl, rfl⟩ rfl ?_
  refine z_al0 eX1_init_12 ?_
  refine z_kj eX1_init_13 ?_
  refine z_pjn eX1_init_14 pX1_15 zs63 (by decide) (by decide) ?_
  refine z_al0 eX1_init_17 ?_
  refine z_kj eX1_init_18 ?_
  refine z_pjn eX1_init_19 pX1_19 zs63 (by decide) (by decide) ?_
  refine z_al0 eX1_init_22 ?_
  refine z_al1 eX1_init_23 ?_
  refine z_pr (t := 4) eX1_init_24 flX1_22 zs63 (by decide) (by decide) rfl ⟨_, rfl, rfl⟩ rfl ?_
  refine z_al0 eX1_init_27 ?_
  refine z_al2 eX1_init_28 ?_
  refine z_pr (t := 50) eX1_init_29 flX1_26 zs63 (by decide) (by decide) rfl ⟨_, rfl, rfl⟩ rfl ?_
  exact z_vretG eX1_init_32 rfl ⟨rfl, rfl, rfl⟩
set_option maxRecDepth 4000 in
set_option maxHeartbeats 4000000 in
theorem c_65 (h : zHp) (d66 : h 66 = zdf 66) : zCall mX3_init 1 (1, 80) [zA 65, zA 32, zA 4, zA 50] 66 h (fun r n2 h2 => r = none ∧ n2 = 67 ∧ zups h [(65, 3, 66), (65, 0, 32), (65, 1, 4), (65, 2, 50)] = h2) := by
  refine z_enter [zA 65, zA 32, zA 4, zA 50] (by decide +kernel) (Nat.le_of_ble_eq_true rfl) rfl (fun hra hrg => ?_)
  refine z_al0 eX3_init_0 ?_
  refine z_obj eX3_init_1 (zT2 151 rfl rfl) (zT1 28 rfl rfl) (zT1 29 rfl rfl) (by decide) (Nat.le_of_ble_eq_true rfl) ?_
  refine z_al0 eX3_init_4 ?_
  refine z_ki eX3_init_5 ?_
  refine z_newp (kd := 20) (sz := 80) (b1 := 0) (b2 := 0) eX3_init_7 (zT1 156 rfl rfl) rfl (by decide) zs66 (by decide) (by decide) (funext fun i => congrFun d66 i) ?_
  refine z_pr (t := 66) eX3_init_9 flX3_11 zs65 (by decide) (by decide) rfl ⟨_, rfl, rfl⟩ rfl ?_
  refine z_al0 eX3_init_12 ?_
  refine z_al1 eX3_init_13 ?_
  refine z_pr (t := 32) eX3_init_14 flX3_17 zs65 (by decide) (by decide) rfl ⟨_, rfl, rfl⟩ rfl ?_
  refine z_al0 eX3_init_17 ?_
  refine z_al2 eX3_init_18 ?_
  refine z_pr (t := 4) eX3_init_19 flX3_21 zs65 (by decide) (by decide) rfl ⟨_, rfl, rfl⟩ rfl ?_
  refine z_al0 eX3_init_22 ?_
  refine z_al3 eX3_init_23 ?_
  refine z_pr (t := 50) eX3_init_24 flX3_25 zs65 (by decide) (by decide) rfl ⟨_, rfl, rfl⟩ rfl ?_
  exact z_vretG eX3_init_27 rfl ⟨rfl, rfl, rfl⟩
set_option maxRecDepth 4000 in
set_option maxHeartbeats 4000000 in
theorem c_67 (h : zHp) (d68 : h 68 = zdf 68) : zCall mX10_init 1 (1, 60) [zA 67] 68 h (fun r n2 h2 => r = none ∧ n2 = 69 ∧ zups h [(67, 3, 68)] = h2) := by
  refine z_enter [zA 67] (by decide +kernel) (Nat.le_of_ble_eq_true rfl) rfl (fun hra hrg => ?_)
  refine z_al0 eX10_init_0 ?_
  refine z_obj eX10_init_1 (zT2 189 rfl rfl) (zT1 28 rfl rfl) (zT1 29 rfl rfl) (by decide) (Nat.le_of_ble_eq_true rfl) ?_
  refine z_al0 eX10_init_4 ?_
  refine z_ki eX10_init_5 ?_
  refine z_newp (kd := 21) (sz := 60) (b1 := 0) (b2 := 0) eX10_init_7 (zT1 155 rfl rfl) rfl (by decide) zs68 (by decide) (by decide) (funext fun i => congrFun d68 i) ?_
  refine z_pr (t := 68) eX10_init_9 flX10_9 zs67 (by decide) (by decide) rfl ⟨_, rfl, rfl⟩ rfl ?_
  exact z_vretG eX10_init_12 rfl ⟨rfl, rfl, rfl⟩
set_option maxRecDepth 4000 in
set_option maxHeartbeats 4000000 in
theorem c_69 (h : zHp) (d70 : h 70 = zdf 70) : zCall mX10_init 1 (1, 60) [zA 69] 70 h (fun r n2 h2 => r = none ∧ n2 = 71 ∧ zups h [(69, 3, 70)] = h2) := by
  refine z_enter [zA 69] (by decide +kernel) (Nat.le_of_ble_eq_true rfl) rfl (fun hra hrg => ?_)
  refine z_al0 eX10_init_0 ?_
  refine z_obj eX10_init_1 (zT2 189 rfl rfl) (zT1 28 rfl rfl) (zT1 29 rfl rfl) (by decide) (Nat.le_of_ble_eq_true rfl) ?_
  refine z_al0 eX10_init_4 ?_
  refine z_ki eX10_init_5 ?_
  refine z_newp (kd := 21) (sz := 60) (b1 := 0) (b2 := 0) eX10_init_7 (zT1 155 rfl rfl) rfl (by decide) zs70 (by decide) (by decide) (funext fun i => congrFun d70 i) ?_
  refine z_pr (t := 70) eX10_init_9 flX10_9 zs69 (by decide) (by decide) rfl ⟨_, rfl, rfl⟩ rfl ?_
  exact z_vretG eX10_init_12 rfl ⟨rfl, rfl, rfl⟩
set_option maxRecDepth 4000 in
set_option maxHeartbeats 4000000 in
theorem c_71 (h : zHp) (d72 : h 72 = zdf 72) : zCall mX10_init 1 (1, 60) [zA 71] 72 h (fun r n2 h2 => r = none ∧ n2 = 73 ∧ zups h [(71, 3, 72)] = h2) := by
  refine z_enter [zA 71] (by decide +kernel) (Nat.le_of_ble_eq_true rfl) rfl (fun hra hrg => ?_)
  refine z_al0 eX10_init_0 ?_
  refine z_obj eX10_init_1 (zT2 189 rfl rfl) (zT1 28 rfl rfl) (zT1 29 rfl rfl) (by decide) (Nat.le_of_ble_eq_true rfl) ?_
  refine z_al0 eX10_init_4 ?_
  refine z_ki eX10_init_5 ?_
  refine z_newp (kd := 21) (sz := 60) (b1 := 0) (b2 := 0) eX10_init_7 (zT1 155 rfl rfl) rfl (by decide) zs72 (by decide) (by decide) (funext fun i => congrFun d72 i) ?_
  refine z_pr (t := 72) eX10_init_9 flX10_9 zs71 (by decide) (by decide) rfl ⟨_, rfl, rfl⟩ rfl ?_
  exact z_vretG eX10_init_12 rfl ⟨rfl, rfl, rfl⟩
set_option maxRecDepth 4000 in
set_option maxHeartbeats 4000000 in
theorem c_73 (h : zHp) (d74 : h 74 = zdf 74) : zCall mX10_init 1 (1, 60) [zA 73] 74 h (fun r n2 h2 => r = none ∧ n2 = 75 ∧ zups h [(73, 3, 74)] = h2) := by
  refine z_enter [zA 73] (by decide +kernel) (Nat.le_of_ble_eq_true rfl) rfl (fun hra hrg => ?_)
  refine z_al0 eX10_init_0 ?_
  refine z_obj eX10_init_1 (zT2 189 rfl rfl) (zT1 28 rfl rfl) (zT1 29 rfl rfl) (by decide) (Nat.le_of_ble_eq_true rfl) ?_
  refine z_al0 eX10_init_4 ?_
  refine z_ki eX10_init_5 ?_
  refine z_newp (kd := 21) (sz := 60) (b1 := 0) (b2 := 0) eX10_init_7 (zT1 155 rfl rfl) rfl (by decide) zs74 (by decide) (by decide) (funext fun i => congrFun d74 i) ?_
  refine z_pr (t := 74) eX10_init_9 flX10_9 zs73 (by decide) (by decide) rfl ⟨_, rfl, rfl⟩ rfl ?_
  exact z_vretG eX10_init_12 rfl ⟨rfl, rfl, rfl⟩
set_option maxRecDepth 4000 in
set_option maxHeartbeats 4000000 in
theorem c_75 (h : zHp) (d76 : h 76 = zdf 76) (d77 : h 77 = zdf 77) (d78 : h 78 = zdf 78) (d79 : h 79 = zdf 79) (d80 : h 80 = zdf 80) (d81 : h 81 = zdf 81) (d82 : h 82 = zdf 82) (d83 : h 83 = zdf 83) (d84 : h 84 = zdf 84) : zCall mX5_init 1 (9, 412) [zA 75] 76 h (fun r n2 h2 => r = none ∧ n2 = 85 ∧ zups h [(75, 2, 76), (75, 3, 77), (75, 4, 78), (75, 5, 79), (75, 8, 80), (75, 9, 81), (75, 10, 82), (75, 11, 83), (75, 12, 84)] = h2) := by
  refine z_enter [zA 75] (by decide +kernel) (Nat.le_of_ble_eq_true rfl) rfl (fun hra hrg => ?_)
  refine z_al0 eX5_init_0 ?_
  refine z_obj eX5_init_1 (zT1 83 rfl rfl) (zT1 28 rfl rfl) (zT1 29 rfl rfl) (by decide) (Nat.le_of_ble_eq_true rfl) ?_
  refine z_al0 eX5_init_4 ?_
  refine z_ki eX5_init_5 ?_
  refine z_newp (kd := 21) (sz := 8) (b1 := 8) (b2 := 404) eX5_init_7 (zT1 155 rfl rfl) rfl (by decide) zs76 (by decide) (by decide) (funext fun i => congrFun d76 i) ?_
  refine z_pr (t := 76) eX5_init_9 flX5_9 zs75 (by decide) (by decide) rfl ⟨_, rfl, rfl⟩ rfl ?_
  refine z_al0 eX5_init_12 ?_
  refine z_ki eX5_init_13 ?_
  refine z_newp (kd := 20) (sz := 8) (b1 := 7) (b2 := 396) eX5_init_15 (zT1 156 rfl rfl) rfl (by decide) zs77 (by decide) (by decide) (funext fun i => congrFun d77 i) ?_
  refine z_pr (t := 77) eX5_init_17 flX5_15 zs75 (by decide) (by decide) rfl ⟨_, rfl, rfl⟩ rfl ?_
  refine z_al0 eX5_init_20 ?_
  refine z_ki eX5_init_21 ?_
  refine z_newp (kd := 20) (sz := 8) (b1 := 6) (b2 := 388) eX5_init_23 (zT1 156 rfl rfl) rfl (by decide) zs78 (by decide) (by decide) (funext fun i => congrFun d78 i) ?_
  refine z_pr (t := 78) eX5_init_25 flX5_19 zs75 (by decide) (by decide) rfl ⟨_, rfl, rfl⟩ rfl ?_
  refine z_al0 eX5_init_28 ?_
  refine z_ki eX5_init_29 ?_
  refine z_newp (kd := 20) (sz := 8) (b1 := 5) (b2 := 380) eX5_init_31 (zT1 156 rfl rfl) rfl (by decide) zs79 (by decide) (by decide) (funext fun i => congrFun d79 i) ?_
  refine z_pr (t := 79) eX5_init_33 flX5_22 zs75 (by decide) (by decide) rfl ⟨_, rfl, rfl⟩ rfl ?_
  refine z_al0 eX5_init_36 ?_
  refine z_ki eX5_init_37 ?_
  refine z_newp (kd := 20) (sz := 20) (b1 := 4) (b2 := 360) eX5_init_39 (zT1 156 rfl rfl) rfl (by decide) zs80 (by decide) (by decide) (funext fun i => congrFun d80 i) ?_
  refine z_pr (t := 80) eX5_init_41 flX5_25 zs75 (by decide) (by decide) rfl ⟨_, rfl, rfl⟩ rfl ?_
  refine z_al0 eX5_init_44 ?_
  refine z_ki eX5_init_45 ?_
  refine z_newp (kd := 20) (sz := 20) (b1 := 3) (b2 := 340) eX5_init_47 (zT1 156 rfl rfl) rfl (by decide) zs81 (by decide) (by decide) (funext fun i => congrFun d81 i) ?_
  refine z_pr (t := 81) eX5_init_49 flX5_28 zs75 (by decide) (by decide) rfl ⟨_, rfl, rfl⟩ rfl ?_
  refine z_al0 eX5_init_52 ?_
  refine z_ki eX5_init_53 ?_
  refine z_newp (kd := 20) (sz := 20) (b1 := 2) (b2 := 320) eX5_init_55 (zT1 156 rfl rfl) rfl (by decide) zs82 (by decide) (by decide) (funext fun i => congrFun d82 i) ?_
  refine z_pr (t := 82) eX5_init_57 flX5_31 zs75 (by decide) (by decide) rfl ⟨_, rfl, rfl⟩ rfl ?_
  refine z_al0 eX5_init_60 ?_
  refine z_ki eX5_init_61 ?_
  refine z_newp (kd := 20) (sz := 160) (b1 := 1) (b2 := 160) eX5_init_64 (zT1 156 rfl rfl) rfl (by decide) zs83 (by decide) (by decide) (funext fun i => congrFun d83 i) ?_
  refine z_pr (t := 83) eX5_init_66 flX5_34 zs75 (by decide) (by decide) rfl ⟨_, rfl, rfl⟩ rfl ?_
  refine z_al0 eX5_init_69 ?_
  refine z_ki eX5_init_70 ?_
  refine z_newp (kd := 20) (sz := 160) (b1 := 0) (b2 := 0) eX5_init_73 (zT1 156 rfl rfl) rfl (by decide) zs84 (by decide) (by decide) (funext fun i => congrFun d84 i) ?_
  refine z_pr (t := 84) eX5_init_75 flX5_37 zs75 (by decide) (by decide) rfl ⟨_, rfl, rfl⟩ rfl ?_
  exact z_vretG eX5_init_78 rfl ⟨rfl, rfl, rfl⟩
set_option maxRecDepth 4000 in
set_option maxHeartbeats 4000000 in
theorem c_85 (h : zHp) (d86 : h 86 = zdf 86) (d87 : h 87 = zdf 87) (d88 : h 88 = zdf 88) : zCall mX7_init 1 (3, 40) [zA 85] 86 h (fun r n2 h2 => r = none ∧ n2 = 89 ∧ zups h [(85, 0, 1), (85, 1, 86), (85, 2, 87), (85, 3, 88), (87, 0, 1), (88, 0, 1)] = h2) := by
  refine z_enter [zA 85] (by decide +kernel) (Nat.le_of_ble_eq_true rfl) rfl (fun hra hrg => ?_)
  refine z_al0 eX7_init_0 ?_
  refine z_obj eX7_init_1 (zT1 162 rfl rfl) (zT1 28 rfl rfl) (zT1 29 rfl rfl) (by decide) (Nat.le_of_ble_eq_true rfl) ?_
  refine z_al0 eX7_init_4 ?_
  refine z_ki eX7_init_5 ?_
  refine z_pin eX7_init_6 pX7_9 zs85 (by decide) (by decide) ?_
  refine z_al0 eX7_init_9 ?_
  refine z_ki eX7_init_10 ?_
  refine z_newp (kd := 20) (sz := 4) (b1 := 2) (b2 := 36) eX7_init_11 (zT1 156 rfl rfl) rfl (by decide) zs86 (by decide) (by decide) (funext fun i => congrFun d86 i) ?_
  refine z_pr (t := 86) eX7_init_13 flX7_15 zs85 (by decide) (by decide) rfl ⟨_, rfl, rfl⟩ rfl ?_
  refine z_al0 eX7_init_16 ?_
  refine z_ki eX7_init_17 ?_
  refine z_newp (kd := 20) (sz := 4) (b1 := 1) (b2 := 32) eX7_init_18 (zT1 156 rfl rfl) rfl (by decide) zs87 (by decide) (by decide) (funext fun i => congrFun d87 i) ?_
  refine z_pr (t := 87) eX7_init_20 flX7_19 zs85 (by decide) (by decide) rfl ⟨_, rfl, rfl⟩ rfl ?_
  refine z_al0 eX7_init_23 ?_
  refine z_ki eX7_init_24 ?_
  refine z_newp (kd := 20) (sz := 32) (b1 := 0) (b2 := 0) eX7_init_26 (zT1 156 rfl rfl) rfl (by decide) zs88 (by decide) (by decide) (funext fun i => congrFun d88 i) ?_
  refine z_pr (t := 88) eX7_init_28 flX7_22 zs85 (by decide) (by decide) rfl ⟨_, rfl, rfl⟩ rfl ?_
  refine z_al0 eX7_init_31 ?_
  refine z_gr (t := 87) eX7_init_32 fX7_19 zs85 (by decide) (by decide) rfl ?_
  refine z_ki eX7_init_35 ?_
  refine z_ki eX7_init_36 ?_
  refine z_iast eX7_init_37 zs87 (by decide) (by decide) (by decide) ?_
  refine z_al0 eX7_init_38 ?_
  refine z_gr (t := 88) eX7_init_39 fX7_22 zs85 (by decide) (by decide) rfl ?_
  refine z_ki eX7_init_42 ?_
  refine z_ki eX7_init_43 ?_
  refine z_iast eX7_init_44 zs88 (by decide) (by decide) (by decide) ?_
  exact z_vretG eX7_init_45 rfl ⟨rfl, rfl, rfl⟩
set_option maxRecDepth 4000 in
set_option maxHeartbeats 4000000 in
theorem c_89 (h : zHp) (d90 : h 90 = zdf 90) (d91 : h 91 = zdf 91) (d92 : h 92 = zdf 92) (d93 : h 93 = zdf 93) (d94 : h 94 = zdf 94) (d95 : h 95 = zdf 95) (d96 : h 96 = zdf 96) (d97 : h 97 = zdf 97) (d98 : h 98 = zdf 98) : zCall mX5_init 1 (9, 412) [zA 89] 90 h (fun r n2 h2 => r = none ∧ n2 = 99 ∧ zups h [(89, 2, 90), (89, 3, 91), (89, 4, 92), (89, 5, 93), (89, 8, 94), (89, 9, 95), (89, 10, 96), (89, 11, 97), (89, 12, 98)] = h2) := by
  refine z_enter [zA 89] (by decide +kernel) (Nat.le_of_ble_eq_true rfl) rfl (fun hra hrg => ?_)
  refine z_al0 eX5_init_0 ?_
  refine z_obj eX5_init_1 (zT1 83 rfl rfl) (zT1 28 rfl rfl) (zT1 29 rfl rfl) (by decide) (Nat.le_of_ble_eq_true rfl) ?_
  refine z_al0 eX5_init_4 ?_
  refine z_ki eX5_init_5 ?_
  refine z_newp (kd := 21) (sz := 8) (b1 := 8) (b2 := 404) eX5_init_7 (zT1 155 rfl rfl) rfl (by decide) zs90 (by decide) (by decide) (funext fun i => congrFun d90 i) ?_
  refine z_pr (t := 90) eX5_init_9 flX5_9 zs89 (by decide) (by decide) rfl ⟨_, rfl, rfl⟩ rfl ?_
  refine z_al0 eX5_init_12 ?_
  refine z_ki eX5_init_13 ?_
  refine z_newp (kd := 20) (sz := 8) (b1 := 7) (b2 := 396) eX5_init_15 (zT1 156 rfl rfl) rfl (by decide) zs91 (by decide) (by decide) (funext fun i => congrFun d91 i) ?_
  refine z_pr (t := 91) eX5_init_17 flX5_15 zs89 (by decide) (by decide) rfl ⟨_, rfl, rfl⟩ rfl ?_
  refine z_al0 eX5_init_20 ?_
  refine z_ki eX5_init_21 ?_
  refine z_newp (kd := 20) (sz := 8) (b1 := 6) (b2 := 388) eX5_init_23 (zT1 156 rfl rfl) rfl (by decide) zs92 (by decide) (by decide) (funext fun i => congrFun d92 i) ?_
  refine z_pr (t := 92) eX5_init_25 flX5_19 zs89 (by decide) (by decide) rfl ⟨_, rfl, rfl⟩ rfl ?_
  refine z_al0 eX5_init_28 ?_
  refine z_ki eX5_init_29 ?_
  refine z_newp (kd := 20) (sz := 8) (b1 := 5) (b2 := 380) eX5_init_31 (zT1 156 rfl rfl) rfl (by decide) zs93 (by decide) (by decide) (funext fun i => congrFun d93 i) ?_
  refine z_pr (t := 93) eX5_init_33 flX5_22 zs89 (by decide) (by decide) rfl ⟨_, rfl, rfl⟩ rfl ?_
  refine z_al0 eX5_init_36 ?_
  refine z_ki eX5_init_37 ?_
  refine z_newp (kd := 20) (sz := 20) (b1 := 4) (b2 := 360) eX5_init_39 (zT1 156 rfl rfl) rfl (by decide) zs94 (by decide) (by decide) (funext fun i => congrFun d94 i) ?_
  refine z_pr (t := 94) eX5_init_41 flX5_25 zs89 (by decide) (by decide) rfl ⟨_, rfl, rfl⟩ rfl ?_
  refine z_al0 eX5_init_44 ?_
  refine z_ki eX5_init_45 ?_
  refine z_newp (kd := 20) (sz := 20) (b1 := 3) (b2 := 340) eX5_init_47 (zT1 156 rfl rfl) rfl (by decide) zs95 (by decide) (by decide) (funext fun i => congrFun d95 i) ?_
  refine z_pr (t := 95) eX5_init_49 flX5_28 zs89 (by decide) (by decide) rfl ⟨_, rfl, rfl⟩ rfl ?_
  refine z_al0 eX5_init_52 ?_
  refine z_ki eX5_init_53 ?_
  refine z_newp (kd := 20) (sz := 20) (b1 := 2) (b2 := 320) eX5_init_55 (zT1 156 rfl rfl) rfl (by decide) zs96 (by decide) (by decide) (funext fun i => congrFun d96 i) ?_
  refine z_pr (t := 96) eX5_init_57 flX5_31 zs89 (by decide) (by decide) rfl ⟨_, rfl, rfl⟩ rfl ?_
  refine z_al0 eX5_init_60 ?_
  refine z_ki eX5_init_61 ?_
  refine z_newp (kd := 20) (sz := 160) (b1 := 1) (b2 := 160) eX5_init_64 (zT1 156 rfl rfl) rfl (by decide) zs97 (by decide) (by decide) (funext fun i => congrFun d97 i) ?_
  refine z_pr (t := 97) eX5_init_66 flX5_34 zs89 (by decide) (by decide) rfl ⟨_, rfl, rfl⟩ rfl ?_
  refine z_al0 eX5_init_69 ?_
  refine z_ki eX5_init_70 ?_
  refine z_newp (kd := 20) (sz := 160) (b1 := 0) (b2 := 0) eX5_init_73 (zT1 156 rfl rfl) rfl (by decide) zs98 (by decide) (by decide) (funext fun i => congrFun d98 i) ?_
  refine z_pr (t := 98) eX5_init_75 flX5_37 zs89 (by decide) (by decide) rfl ⟨_, rfl, rfl⟩ rfl ?_
  exact z_vretG eX5_init_78 rfl ⟨rfl, rfl, rfl⟩
set_option maxRecDepth 4000 in
set_option maxHeartbeats 4000000 in
theorem c_99 (h : zHp) (d100 : h 100 = zdf 100) (d101 : h 101 = zdf 101) (d102 : h 102 = zdf 102) : zCall mX7_init 1 (3, 40) [zA 99] 100 h (fun r n2 h2 => r = none ∧ n2 = 103 ∧ zups h [(99, 0, 1), (99, 1, 100), (99, 2, 101), (99, 3, 102), (101, 0, 1), (102, 0, 1)] = h2) := by
  refine z_enter [zA 99] (by decide +kernel) (Nat.le_of_ble_eq_true rfl) rfl (fun hra hrg => ?_)
  refine z_al0 eX7_init_0 ?_
  refine z_obj eX7_init_1 (zT1 162 rfl rfl) (zT1 28 rfl rfl) (zT1 29 rfl rfl) (by decide) (Nat.le_of_ble_eq_true rfl) ?_
  refine z_al0 eX7_init_4 ?_
  refine z_ki eX7_init_5 ?_
  refine z_pin eX7_init_6 pX7_9 zs99 (by decide) (by decide) ?_
  refine z_al0 eX7_init_9 ?_
  refine z_ki eX7_init_10 ?_
  refine z_newp (kd := 20) (sz := 4) (b1 := 2) (b2 := 36) eX7_init_11 (zT1 156 rfl rfl) rfl (by decide) zs100 (by decide) (by decide) (funext fun i => congrFun d100 i) ?_
  refine z_pr (t := 100) eX7_init_13 flX7_15 zs99 (by decide) (by decide) rfl ⟨_, rfl, rfl⟩ rfl ?_
  refine z_al0 eX7_init_16 ?_
  refine z_ki eX7_init_17 ?_
  refine z_newp (kd := 20) (sz := 4) (b1 := 1) (b2 := 32) eX7_init_18 (zT1 156 rfl rfl) rfl (by decide) zs101 (by decide) (by decide) (funext fun i => congrFun d101 i) ?_
  refine z_pr (t := 101) eX7_init_20 flX7_19 zs99 (by decide) (by decide) rfl ⟨_, rfl, rfl⟩ rfl ?_
  refine z_al0 eX7_init_23 ?_
  refine z_ki eX7_init_24 ?_
  refine z_newp (kd := 20) (sz := 32) (b1 := 0) (b2 := 0) eX7_init_26 (zT1 156 rfl rfl) rfl (by decide) zs102 (by decide) (by decide) (funext fun i => congrFun d102 i) ?_
  refine z_pr (t := 102) eX7_init_28 flX7_22 zs99 (by decide) (by decide) rfl ⟨_, rfl, rfl⟩ rfl ?_
  refine z_al0 eX7_init_31 ?_
  refine z_gr (t := 101) eX7_init_32 fX7_19 zs99 (by decide) (by decide) rfl ?_
  refine z_ki eX7_init_35 ?_
  refine z_ki eX7_init_36 ?_
  refine z_iast eX7_init_37 zs101 (by decide) (by decide) (by decide) ?_
  refine z_al0 eX7_init_38 ?_
  refine z_gr (t := 102) eX7_init_39 fX7_22 zs99 (by decide) (by decide) rfl ?_
  refine z_ki eX7_init_42 ?_
  refine z_ki eX7_init_43 ?_
  refine z_iast eX7_init_44 zs102 (by decide) (by decide) (by decide) ?_
  exact z_vretG eX7_init_45 rfl ⟨rfl, rfl, rfl⟩
set_option maxRecDepth 4000 in
set_option maxHeartbeats 4000000 in
theorem c_103 (h : zHp) (d104 : h 104 = zdf 104) (d105 : h 105 = zdf 105) (d106 : h 106 = zdf 106) (d107 : h 107 = zdf 107) (d108 : h 108 = zdf 108) (d109 : h 109 = zdf 109) (d110 : h 110 = zdf 110) (d111 : h 111 = zdf 111) (d112 : h 112 = zdf 112) : zCall mX5_init 1 (9, 412) [zA 103] 104 h (fun r n2 h2 => r = none ∧ n2 = 113 ∧ zups h [(103, 2, 104), (103, 3, 105), (103, 4, 106), (103, 5, 107), (103, 8, 108), (103, 9, 109), (103, 10, 110), (103, 11, 111), (103, 12, 112)] = h2) := by
  refine z_enter [zA 103] (by decide +kernel) (Nat.le_of_ble_eq_true rfl) rfl (fun hra hrg => ?_)
  refine z_al0 eX5_init_0 ?_
  refine z_obj eX5_init_1 (zT1 83 rfl rfl) (zT1 28 rfl rfl) (zT1 29 rfl rfl) (by decide) (Nat.le_of_ble_eq_true rfl) ?_
  refine z_al0 eX5_init_4 ?_
  refine z_ki eX5_init_5 ?_
  refine z_newp (kd := 21) (sz := 8) (b1 := 8) (b2 := 404) eX5_init_7 (zT1 155 rfl rfl) rfl (by decide) zs104 (by decide) (by decide) (funext fun i => congrFun d104 i) ?_
  refine z_pr (t := 104) eX5_init_9 flX5_9 zs103 (by decide) (by decide) rfl ⟨_, rfl, rfl⟩ rfl ?_
  refine z_al0 eX5_init_12 ?_
  refine z_ki eX5_init_13 ?_
  refine z_newp (kd := 20) (sz := 8) (b1 := 7) (b2 := 396) eX5_init_15 (zT1 156 rfl rfl) rfl (by decide) zs105 (by decide) (by decide) (funext fun i => congrFun d105 i) ?_
  refine z_pr (t := 105) eX5_init_17 flX5_15 zs103 (by decide) (by decide) rfl ⟨_, rfl, rfl⟩ rfl ?_
  refine z_al0 eX5_init_20 ?_
  refine z_ki eX5_init_21 ?_
  refine z_newp (kd := 20) (sz := 8) (b1 := 6) (b2 := 388) eX5_init_23 (zT1 156 rfl rfl) rfl (by decide) zs106 (by decide) (by decide) (funext fun i => congrFun d106 i) ?_
  refine z_pr (t := 106) eX5_init_25 flX5_19 zs103 (by decide) (by decide) rfl ⟨_, rfl, rfl⟩ rfl ?_
  refine z_al0 eX5_init_28 ?_
  refine z_ki eX5_init_29 ?_
  refine z_newp (kd := 20) (sz := 8) (b1 := 5) (b2 := 380) eX5_init_31 (zT1 156 rfl rfl) rfl (by decide) zs107 (by decide) (by decide) (funext fun i => congrFun d107 i) ?_
  refine z_pr (t := 107) eX5_init_33 flX5_22 zs103 (by decide) (by decide) rfl ⟨_, rfl, rfl⟩ rfl ?_
  refine z_al0 eX5_init_36 ?_
  refine z_ki eX5_init_37 ?_
  refine z_newp (kd := 20) (sz := 20) (b1 := 4) (b2 := 360) eX5_init_39 (zT1 156 rfl rfl) rfl (by decide) zs108 (by decide) (by decide) (funext fun i => congrFun d108 i) ?_
  refine z_pr (t := 108) eX5_init_41 flX5_25 zs103 (by decide) (by decide) rfl ⟨_, rfl, rfl⟩ rfl ?_
  refine z_al0 eX5_init_44 ?_
  refine z_ki eX5_init_45 ?_
  refine z_newp (kd := 20) (sz := 20) (b1 := 3) (b2 := 340) eX5_init_47 (zT1 156 rfl rfl) rfl (by decide) zs109 (by decide) (by decide) (funext fun i => congrFun d109 i) ?_
  refine z_pr (t := 109) eX5_init_49 flX5_28 zs103 (by decide) (by decide) rfl ⟨_, rfl, rfl⟩ rfl ?_
  refine z_al0 eX5_init_52 ?_
  refine z_ki eX5_init_53 ?_
  refine z_newp (kd := 20) (sz := 20) (b1 := 2) (b2 := 320) eX5_init_55 (zT1 156 rfl rfl) rfl (by decide) zs110 (by decide) (by decide) (funext fun i => congrFun d110 i) ?_
  refine z_pr (t := 110) eX5_init_57 flX5_31 zs103 (by decide) (by decide) rfl ⟨_, rfl, rfl⟩ rfl ?_
  refine z_al0 eX5_init_60 ?_
  refine z_ki eX5_init_61 ?_
  refine z_newp (kd := 20) (sz := 160) (b1 := 1) (b2 := 160) eX5_init_64 (zT1 156 rfl rfl) rfl (by decide) zs111 (by decide) (by decide) (funext fun i => congrFun d111 i) ?_
  refine z_pr (t := 111) eX5_init_66 flX5_34 zs103 (by decide) (by decide) rfl ⟨_, rfl, rfl⟩ rfl ?_
  refine z_al0 eX5_init_69 ?_
  refine z_ki eX5_init_70 ?_
  refine z_newp (kd := 20) (sz := 160) (b1 := 0) (b2 := 0) eX5_init_73 (zT1 156 rfl rfl) rfl (by decide) zs112 (by decide) (by decide) (funext fun i => congrFun d112 i) ?_
  refine z_pr (t := 112) eX5_init_75 flX5_37 zs103 (by decide) (by decide) rfl ⟨_, rfl, rfl⟩ rfl ?_
  exact z_vretG eX5_init_78 rfl ⟨rfl, rfl, rfl⟩
set_option maxRecDepth 4000 in
set_option maxHeartbeats 4000000 in
theorem c_113 (h : zHp) (d114 : h 114 = zdf 114) (d115 : h 115 = zdf 115) (d116 : h 116 = zdf 116) : zCall mX7_init 1 (3, 40) [zA 113] 114 h (fun r n2 h2 => r = none ∧ n2 = 117 ∧ zups h [(113, 0, 1), (113, 1, 114), (113, 2, 115), (113, 3, 116), (115, 0, 1), (116, 0, 1)] = h2) := by
  refine z_enter [zA 113] (by decide +kernel) (Nat.le_of_ble_eq_true rfl) rfl (fun hra hrg => ?_)
  refine z_al0 eX7_init_0 ?_
  refine z_obj eX7_init_1 (zT1 162 rfl rfl) (zT1 28 rfl rfl) (zT1 29 rfl rfl) (by decide) (Nat.le_of_ble_eq_true rfl) ?_
  refine z_al0 eX7_init_4 ?_
  refine z_ki eX7_init_5 ?_
  refine z_pin eX7_init_6 pX7_9 zs113 (by decide) (by decide) ?_
  refine z_al0 eX7_init_9 ?_
  refine z_ki eX7_init_10 ?_
  refine z_newp (kd := 20) (sz := 4) (b1 := 2) (b2 := 36) eX7_init_11 (zT1 156 rfl rfl) rfl (by decide) zs114 (by decide) (by decide) (funext fun i => congrFun d114 i) ?_
  refine z_pr (t := 114) eX7_init_13 flX7_15 zs113 (by decide) (by decide) rfl ⟨_, rfl, rfl⟩ rfl ?_
  refine z_al0 eX7_init_16 ?_
  refine z_ki eX7_init_17 ?_
  refine z_newp (kd := 20) (sz := 4) (b1 := 1) (b2 := 32) eX7_init_18 (zT1 156 rfl rfl) rfl (by decide) zs115 (by decide) (by decide) (funext fun i => congrFun d115 i) ?_
  refine z_pr (t := 115) eX7_init_20 flX7_19 zs113 (by decide) (by decide) rfl ⟨_, rfl, rfl⟩ rfl ?_
  refine z_al0 eX7_init_23 ?_
  refine z_ki eX7_init_24 ?_
  refine z_newp (kd := 20) (sz := 32) (b1 := 0) (b2 := 0) eX7_init_26 (zT1 156 rfl rfl) rfl (by decide) zs116 (by decide) (by decide) (funext fun i => congrFun d116 i) ?_
  refine z_pr (t := 116) eX7_init_28 flX7_22 zs113 (by decide) (by decide) rfl ⟨_, rfl, rfl⟩ rfl ?_
  refine z_al0 eX7_init_31 ?_
  refine z_gr (t := 115) eX7_init_32 fX7_19 zs113 (by decide) (by decide) rfl ?_
  refine z_ki eX7_init_35 ?_
  refine z_ki eX7_init_36 ?_
  refine z_iast eX7_init_37 zs115 (by decide) (by decide) (by decide) ?_
  refine z_al0 eX7_init_38 ?_
  refine z_gr (t := 116) eX7_init_39 fX7_22 zs113 (by decide) (by decide) rfl ?_
  refine z_ki eX7_init_42 ?_
  refine z_ki eX7_init_43 ?_
  refine z_iast eX7_init_44 zs116 (by decide) (by decide) (by decide) ?_
  exact z_vretG eX7_init_45 rfl ⟨rfl, rfl, rfl⟩
set_option maxRecDepth 4000 in
set_option maxHeartbeats 4000000 in
theorem c_0 (h : zHp) (d1 : h 1 = zdf 1) (d2 : h 2 = zdf 2) (d3 : h 3 = zdf 3) (d4 : h 4 = zdf 4) (d5 : h 5 = zdf 5) (d6 : h 6 = zdf 6) (d7 : h 7 = zdf 7) (d8 : h 8 = zdf 8) (d9 : h 9 = zdf 9) (d10 : h 10 = zdf 10) (d11 : h 11 = zdf 11) (d12 : h 12 = zdf 12) (d13 : h 13 = zdf 13) (d14 : h 14 = zdf 14) (d15 : h 15 = zdf 15) (d16 : h 16 = zdf 16) (d17 : h 17 = zdf 17) (d18 : h 18 = zdf 18) (d19 : h 19 = zdf 19) (d20 : h 20 = zdf 20) (d21 : h 21 = zdf 21) (d22 : h 22 = zdf 22) (d23 : h 23 = zdf 23) (d24 : h 24 = zdf 24) (d25 : h 25 = zdf 25) (d26 : h 26 = zdf 26) (d27 : h 27 = zdf 27) (d28 : h 28 = zdf 28) (d29 : h 29 = zdf 29) (d30 : h 30 = zdf 30) (d31 : h 31 = zdf 31) (d32 : h 32 = zdf 32) (d33 : h 33 = zdf 33) (d34 : h 34 = zdf 34) (d35 : h 35 = zdf 35) (d36 : h 36 = zdf 36) (d37 : h 37 = zdf 37) (d38 : h 38 = zdf 38) (d39 : h 39 = zdf 39) (d40 : h 40 = zdf 40) (d41 : h 41 = zdf 41) (d42 : h 42 = zdf 42) (d43 : h 43 = zdf 43) (d44 : h 44 = zdf 44) (d45 : h 45 = zdf 45) (d46 : h 46 = zdf 46) (d47 : h 47 = zdf 47) (d48 : h 48 = zdf 48) (d49 : h 49 = zdf 49) (d50 : h 50 = zdf 50) (d51 : h 51 = zdf 51) (d52 : h 52 = zdf 52) (d53 : h 53 = zdf 53) (d54 : h 54 = zdf 54) (d55 : h 55 = zdf 55) (d56 : h 56 = zdf 56) (d57 : h 57 = zdf 57) (d58 : h 58 = zdf 58) (d59 : h 59 = zdf 59) (d60 : h 60 = zdf 60) (d61 : h 61 = zdf 61) (d62 : h 62 = zdf 62) (d63 : h 63 = zdf 63) (d64 : h 64 = zdf 64) (d65 : h 65 = zdf 65) (d66 : h 66 = zdf 66) (d67 : h 67 = zdf 67) (d68 : h 68 = zdf 68) (d69 : h 69 = zdf 69) (d70 : h 70 = zdf 70) (d71 : h 71 = zdf 71) (d72 : h 72 = zdf 72) (d73 : h 73 = zdf 73) (d74 : h 74 = zdf 74) (d75 : h 75 = zdf 75) (d76 : h 76 = zdf 76) (d77 : h 77 = zdf 77) (d78 : h 78 = zdf 78) (d79 : h 79 = zdf 79) (d80 : h 80 = zdf 80) (d81 : h 81 = zdf 81) (d82 : h 82 = zdf 82) (d83 : h 83 = zdf 83) (d84 : h 84 = zdf 84) (d85 : h 85 = zdf 85) (d86 : h 86 = zdf 86) (d87 : h 87 = zdf 87) (d88 : h 88 = zdf 88) (d89 : h 89 = zdf 89) (d90 : h 90 = zdf 90) (d91 : h 91 = zdf 91) (d92 : h 92 = zdf 92) (d93 : h 93 = zdf 93) (d94 : h 94 = zdf 94) (d95 : h 95 = zdf 95) (d96 : h 96 = zdf 96) (d97 : h 97 = zdf 97) (d98 : h 98 = zdf 98) (d99 : h 99 = zdf 99) (d100 : h 100 = zdf 100) (d101 : h 101 = zdf 101) (d102 : h 102 = zdf 102) (d103 : h 103 = zdf 103) (d104 : h 104 = zdf 104) (d105 : h 105 = zdf 105) (d106 : h 106 = zdf 106) (d107 : h 107 = zdf 107) (d108 : h 108 = zdf 108) (d109 : h 109 = zdf 109) (d110 : h 110 = zdf 110) (d111 : h 111 = zdf 111) (d112 : h 112 = zdf 112) (d113 : h 113 = zdf 113) (d114 : h 114 = zdf 114) (d115 : h 115 = zdf 115) (d116 : h 116 = zdf 116) : zCall mX11_init 2 (116, 5069) [zA 0] 1 h (fun r n2 h2 => r = none ∧ n2 = 117 ∧ zups h [(0, 1, 1), (2, 0, 3), (2, 8, -1), (2, 9, -1), (0, 2, 2), (4, 2, 5), (4, 3, 6), (4, 4, 7), (4, 5, 8), (4, 8, 9), (4, 9, 10), (4, 10, 11), (4, 11, 12), (4, 12, 13), (0, 3, 4), (14, 2, 15), (14, 3, 16), (14, 4, 17), (14, 5, 18), (14, 8, 19), (14, 9, 20), (14, 10, 21), (14, 11, 22), (14, 12, 23), (0, 4, 14), (24, 0, 1), (24, 1, 25), (24, 2, 26), (24, 3, 27), (26, 0, 1), (27, 0, 1), (0, 5, 24), (28, 0, 1), (28, 1, 29), (28, 2, 30), (28, 3, 31), (30, 0, 1), (31, 0, 1), (0, 6, 28), (32, 3, 33), (32, 4, 34), (32, 5, 35), (32, 6, 36), (32, 7, 37), (32, 8, 38), (32, 9, 39), (0, 7, 32), (40, 3, 41), (40, 4, 42), (40, 5, 43), (40, 6, 44), (40, 7, 45), (40, 8, 46), (40, 9, 47), (0, 8, 40), (0, 9, 48), (0, 10, 49), (50, 2, 51), (50, 3, 52), (50, 4, 53), (50, 0, 4), (50, 1, 24), (0, 12, 50), (54, 6, 55), (54, 7, 56), (54, 11, 57), (54, 0, 4), (54, 1, 50), (0, 13, 54), (58, 0, 0), (58, 4, 59), (0, 14, 58), (60, 2, 61), (60, 3, 62), (60, 5, -1), (60, 0, 4), (60, 1, 50), (0, 15, 60), (63, 2, 64), (63, 5, 0), (63, 6, 1), (63, 0, 4), (63, 1, 50), (0, 16, 63), (65, 3, 66), (65, 0, 32), (65, 1, 4), (65, 2, 50), (0, 17, 65), (67, 3, 68), (1, 0, 67), (69, 3, 70), (1, 1, 69), (71, 3, 72), (1, 2, 71), (73, 3, 74), (1, 3, 73), (75, 2, 76), (75, 3, 77), (75, 4, 78), (75, 5, 79), (75, 8, 80), (75, 9, 81), (75, 10, 82), (75, 11, 83), (75, 12, 84), (48, 0, 75), (85, 0, 1), (85, 1, 86), (85, 2, 87), (85, 3, 88), (87, 0, 1), (88, 0, 1), (49, 0, 85), (89, 2, 90), (89, 3, 91), (89, 4, 92), (89, 5, 93), (89, 8, 94), (89, 9, 95), (89, 10, 96), (89, 11, 97), (89, 12, 98), (48, 1, 89), (99, 0, 1), (99, 1, 100), (99, 2, 101), (99, 3, 102), (101, 0, 1), (102, 0, 1), (49, 1, 99), (103, 2, 104), (103, 3, 105), (103, 4, 106), (103, 5, 107), (103, 8, 108), (103, 9, 109), (103, 10, 110), (103, 11, 111), (103, 12, 112), (48, 2, 103), (113, 0, 1), (113, 1, 114), (113, 2, 115), (113, 3, 116), (115, 0, 1), (116, 0, 1), (49, 2, 113)] = h2) := by
  refine z_enter [zA 0, zU] (by decide +kernel) (Nat.le_of_ble_eq_true rfl) rfl (fun hra hrg => ?_)
  refine z_al0 eX11_init_0 ?_
  refine z_obj eX11_init_1 (zT1 27 rfl rfl) (zT1 28 rfl rfl) (zT1 29 rfl rfl) (by decide) (Nat.le_of_ble_eq_true rfl) ?_
  refine z_al0 eX11_init_4 ?_
  refine z_ki eX11_init_5 ?_
  refine z_newq (C0 := "DoorList$Tray") (kd := 24) (sz := 4) (b1 := 115) (b2 := 5065) eX11_init_6 (zT1 30 rfl rfl) (by decide) rfl (by decide) zs1 (by decide) (by decide) (funext fun i => congrFun d1 i) ?_
  refine z_pr (t := 1) eX11_init_9 flX11_11 zs0 (by decide) (by decide) rfl ⟨_, rfl, rfl⟩ rfl ?_
  refine z_al0 eX11_init_12 ?_
  refine z_newc (C := "DoorList$Tape") (F := 10) (ci := 9) (b1 := 114) (b2 := 5055) eX11_init_13 (zT1 32 rfl rfl) (zT1 33 rfl rfl) (zT1 2 rfl rfl) rfl zs2 (by decide) (funext fun i => congrFun d2 i) ?_
  refine z_dup eX11_init_16 zn2 ?_
  refine z_inn (host := "DoorList") (a := 2) (as := []) (st := [zA 2, zA 0]) eX11_init_17 (by decide) tX9_init (c_2 _ (funext fun i => congrFun d3 i)) (by decide) (by decide) (by decide) rfl (Nat.le_of_ble_eq_true rfl) (fun r n2 h2 q => ⟨q.1, by decide, q.2.1⟩) (fun n2 h2 q => ?_)
  obtain ⟨-, rfl, rfl⟩ := q
  show zRW _ _ (113, 4355) _ _ _ _ _ _
  refine z_pr (t := 2) eX11_init_20 flX11_18 zs0 (by decide) (by decide) rfl ⟨_, rfl, rfl⟩ rfl ?_
  refine z_al0 eX11_init_23 ?_
  refine z_newc (C := "DoorList$Hall") (F := 13) (ci := 5) (b1 := 112) (b2 := 4342) eX11_init_24 (zT1 78 rfl rfl) (zT1 79 rfl rfl) (zT1 3 rfl rfl) rfl zs4 (by decide) (funext fun i => congrFun d4 i) ?_
  refine z_dup eX11_init_27 zn2 ?_
  refine z_inn (host := "DoorList") (a := 4) (as := []) (st := [zA 4, zA 0]) eX11_init_28 (by decide) tX5_init (c_4 _ (funext fun i => congrFun d5 i) (funext fun i => congrFun d6 i) (funext fun i => congrFun d7 i) (funext fun i => congrFun d8 i) (funext fun i => congrFun d9 i) (funext fun i => congrFun d10 i) (funext fun i => congrFun d11 i) (funext fun i => congrFun d12 i) (funext fun i => congrFun d13 i)) (by decide) (by decide) (by decide) rfl (Nat.le_of_ble_eq_true rfl) (fun r n2 h2 q => ⟨q.1, by decide, q.2.1⟩) (fun n2 h2 q => ?_)
  obtain ⟨-, rfl, rfl⟩ := q
  show zRW _ _ (103, 3930) _ _ _ _ _ _
  refine z_pr (t := 4) eX11_init_31 flX11_25 zs0 (by decide) (by decide) rfl ⟨_, rfl, rfl⟩ rfl ?_
  refine z_al0 eX11_init_34 ?_
  refine z_newc (C := "DoorList$Hall") (F := 13) (ci := 5) (b1 := 102) (b2 := 3917) eX11_init_35 (zT1 78 rfl rfl) (zT1 79 rfl rfl) (zT1 3 rfl rfl) rfl zs14 (by decide) (funext fun i => congrFun d14 i) ?_
  refine z_dup eX11_init_38 zn2 ?_
  refine z_inn (host := "DoorList") (a := 14) (as := []) (st := [zA 14, zA 0]) eX11_init_39 (by decide) tX5_init (c_14 _ (funext fun i => congrFun d15 i) (funext fun i => congrFun d16 i) (funext fun i => congrFun d17 i) (funext fun i => congrFun d18 i) (funext fun i => congrFun d19 i) (funext fun i => congrFun d20 i) (funext fun i => congrFun d21 i) (funext fun i => congrFun d22 i) (funext fun i => congrFun d23 i)) (by decide) (by decide) (by decide) rfl (Nat.le_of_ble_eq_true rfl) (fun r n2 h2 q => ⟨q.1, by decide, q.2.1⟩) (fun n2 h2 q => ?_)
  obtain ⟨-, rfl, rfl⟩ := q
  show zRW _ _ (93, 3505) _ _ _ _ _ _
  refine z_pr (t := 14) eX11_init_42 flX11_29 zs0 (by decide) (by decide) rfl ⟨_, rfl, rfl⟩ rfl ?_
  refine z_al0 eX11_init_45 ?_
  refine z_newc (C := "DoorList$Rule") (F := 4) (ci := 7) (b1 := 92) (b2 := 3501) eX11_init_46 (zT1 157 rfl rfl) (zT1 158 rfl rfl) (zT1 4 rfl rfl) rfl zs24 (by decide) (funext fun i => congrFun d24 i) ?_
  refine z_dup eX11_init_49 zn2 ?_
  refine z_ini (a := 24) (as := []) (st := [zA 24, zA 0]) eX11_init_50 lX11_34 tX7_init (c_24 _ (funext fun i => congrFun d25 i) (funext fun i => congrFun d26 i) (funext fun i => congrFun d27 i)) (by decide) (by decide) (by decide) rfl (Nat.le_of_ble_eq_true rfl) (fun r n2 h2 q => ⟨q.1, by decide, q.2.1⟩) (fun n2 h2 q => ?_)
  obtain ⟨-, rfl, rfl⟩ := q
  show zRW _ _ (89, 3461) _ _ _ _ _ _
  refine z_pr (t := 24) eX11_init_53 flX11_35 zs0 (by decide) (by decide) rfl ⟨_, rfl, rfl⟩ rfl ?_
  refine z_al0 eX11_init_56 ?_
  refine z_newc (C := "DoorList$Rule") (F := 4) (ci := 7) (b1 := 88) (b2 := 3457) eX11_init_57 (zT1 157 rfl rfl) (zT1 158 rfl rfl) (zT1 4 rfl rfl) rfl zs28 (by decide) (funext fun i => congrFun d28 i) ?_
  refine z_dup eX11_init_60 zn2 ?_
  refine z_ini (a := 28) (as := []) (st := [zA 28, zA 0]) eX11_init_61 lX11_34 tX7_init (c_28 _ (funext fun i => congrFun d29 i) (funext fun i => congrFun d30 i) (funext fun i => congrFun d31 i)) (by decide) (by decide) (by decide) rfl (Nat.le_of_ble_eq_true rfl) (fun r n2 h2 q => ⟨q.1, by decide, q.2.1⟩) (fun n2 h2 q => ?_)
  obtain ⟨-, rfl, rfl⟩ := q
  show zRW _ _ (85, 3417) _ _ _ _ _ _
  refine z_pr (t := 28) eX11_init_64 flX11_39 zs0 (by decide) (by decide) rfl ⟨_, rfl, rfl⟩ rfl ?_
  refine z_al0 eX11_init_67 ?_
  refine z_newc (C := "DoorList$Acts") (F := 11) (ci := 0) (b1 := 84) (b2 := 3406) eX11_init_68 (zT1 181 rfl rfl) (zT1 182 rfl rfl) (zT1 5 rfl rfl) rfl zs32 (by decide) (funext fun i => congrFun d32 i) ?_
  refine z_dup eX11_init_71 zn2 ?_
  refine z_inn (host := "DoorList") (a := 32) (as := []) (st := [zA 32, zA 0]) eX11_init_72 (by decide) tX0_init (c_32 _ (funext fun i => congrFun d33 i) (funext fun i => congrFun d34 i) (funext fun i => congrFun d35 i) (funext fun i => congrFun d36 i) (funext fun i => congrFun d37 i) (funext fun i => congrFun d38 i) (funext fun i => congrFun d39 i)) (by decide) (by decide) (by decide) rfl (Nat.le_of_ble_eq_true rfl) (fun r n2 h2 q => ⟨q.1, by decide, q.2.1⟩) (fun n2 h2 q => ?_)
  obtain ⟨-, rfl, rfl⟩ := q
  show zRW _ _ (77, 2923) _ _ _ _ _ _
  refine z_pr (t := 32) eX11_init_75 flX11_45 zs0 (by decide) (by decide) rfl ⟨_, rfl, rfl⟩ rfl ?_
  refine z_al0 eX11_init_78 ?_
  refine z_newc (C := "DoorList$Acts") (F := 11) (ci := 0) (b1 := 76) (b2 := 2912) eX11_init_79 (zT1 181 rfl rfl) (zT1 182 rfl rfl) (zT1 5 rfl rfl) rfl zs40 (by decide) (funext fun i => congrFun d40 i) ?_
  refine z_dup eX11_init_82 zn2 ?_
  refine z_inn (host := "DoorList") (a := 40) (as := []) (st := [zA 40, zA 0]) eX11_init_83 (by decide) tX0_init (c_40 _ (funext fun i => congrFun d41 i) (funext fun i => congrFun d42 i) (funext fun i => congrFun d43 i) (funext fun i => congrFun d44 i) (funext fun i => congrFun d45 i) (funext fun i => congrFun d46 i) (funext fun i => congrFun d47 i)) (by decide) (by decide) (by decide) rfl (Nat.le_of_ble_eq_true rfl) (fun r n2 h2 q => ⟨q.1, by decide, q.2.1⟩) (fun n2 h2 q => ?_)
  obtain ⟨-, rfl, rfl⟩ := q
  show zRW _ _ (69, 2429) _ _ _ _ _ _
  refine z_pr (t := 40) eX11_init_86 flX11_49 zs0 (by decide) (by decide) rfl ⟨_, rfl, rfl⟩ rfl ?_
  refine z_al0 eX11_init_89 ?_
  refine z_ki eX11_init_90 ?_
  refine z_newq (C0 := "DoorList$Hall") (kd := 25) (sz := 3) (b1 := 68) (b2 := 2426) eX11_init_91 (zT1 78 rfl rfl) (by decide) rfl (by decide) zs48 (by decide) (by decide) (funext fun i => congrFun d48 i) ?_
  refine z_pr (t := 48) eX11_init_94 flX11_52 zs0 (by decide) (by decide) rfl ⟨_, rfl, rfl⟩ rfl ?_
  refine z_al0 eX11_init_97 ?_
  refine z_ki eX11_init_98 ?_
  refine z_newq (C0 := "DoorList$Rule") (kd := 26) (sz := 3) (b1 := 67) (b2 := 2423) eX11_init_99 (zT1 157 rfl rfl) (by decide) rfl (by decide) zs49 (by decide) (by decide) (funext fun i => congrFun d49 i) ?_
  refine z_pr (t := 49) eX11_init_102 flX11_56 zs0 (by decide) (by decide) rfl ⟨_, rfl, rfl⟩ rfl ?_
  refine z_al0 eX11_init_105 ?_
  refine z_newc (C := "DoorList$Count") (F := 5) (ci := 2) (b1 := 66) (b2 := 2418) eX11_init_106 (zT1 233 rfl rfl) (zT1 234 rfl rfl) (zT1 6 rfl rfl) rfl zs50 (by decide) (funext fun i => congrFun d50 i) ?_
  refine z_dup eX11_init_109 zn2 ?_
  refine z_al0 eX11_init_110 ?_
  refine z_gr (t := 4) eX11_init_111 fX11_25 zs0 (by decide) (by decide) rfl ?_
  refine z_al0 eX11_init_114 ?_
  refine z_gr (t := 24) eX11_init_115 fX11_35 zs0 (by decide) (by decide) rfl ?_
  refine z_ini (a := 50) (as := [zA 4, zA 24]) (st := [zA 50, zA 0]) eX11_init_118 lX11_62 tX2_init (c_50 _ (funext fun i => congrFun d51 i) (funext fun i => congrFun d52 i) (funext fun i => congrFun d53 i)) (by decide) (by decide) (by decide) rfl (Nat.le_of_ble_eq_true rfl) (fun r n2 h2 q => ⟨q.1, by decide, q.2.1⟩) (fun n2 h2 q => ?_)
  obtain ⟨-, rfl, rfl⟩ := q
  show zRW _ _ (63, 2370) _ _ _ _ _ _
  refine z_pr (t := 50) eX11_init_121 flX11_65 zs0 (by decide) (by decide) rfl ⟨_, rfl, rfl⟩ rfl ?_
  refine z_al0 eX11_init_124 ?_
  refine z_newc (C := "DoorList$Search") (F := 12) (ci := 8) (b1 := 62) (b2 := 2358) eX11_init_125 (zT2 15 rfl rfl) (zT2 16 rfl rfl) (zT1 7 rfl rfl) rfl zs54 (by decide) (funext fun i => congrFun d54 i) ?_
  refine z_dup eX11_init_128 zn2 ?_
  refine z_al0 eX11_init_129 ?_
  refine z_gr (t := 4) eX11_init_130 fX11_25 zs0 (by decide) (by decide) rfl ?_
  refine z_al0 eX11_init_133 ?_
  refine z_gr (t := 50) eX11_init_134 fX11_65 zs0 (by decide) (by decide) rfl ?_
  refine z_ini (a := 54) (as := [zA 4, zA 50]) (st := [zA 54, zA 0]) eX11_init_137 lX11_71 tX8_init (c_54 _ (funext fun i => congrFun d55 i) (funext fun i => congrFun d56 i) (funext fun i => congrFun d57 i)) (by decide) (by decide) (by decide) rfl (Nat.le_of_ble_eq_true rfl) (fun r n2 h2 q => ⟨q.1, by decide, q.2.1⟩) (fun n2 h2 q => ?_)
  obtain ⟨-, rfl, rfl⟩ := q
  show zRW _ _ (59, 2314) _ _ _ _ _ _
  refine z_pr (t := 54) eX11_init_140 flX11_74 zs0 (by decide) (by decide) rfl ⟨_, rfl, rfl⟩ rfl ?_
  refine z_al0 eX11_init_143 ?_
  refine z_newc (C := "DoorList$Found") (F := 5) (ci := 4) (b1 := 58) (b2 := 2309) eX11_init_144 (zT2 62 rfl rfl) (zT2 63 rfl rfl) (zT1 8 rfl rfl) rfl zs58 (by decide) (funext fun i => congrFun d58 i) ?_
  refine z_dup eX11_init_147 zn2 ?_
  refine z_inn (host := "DoorList") (a := 58) (as := []) (st := [zA 58, zA 0]) eX11_init_148 (by decide) tX4_init (c_58 _ (funext fun i => congrFun d59 i)) (by decide) (by decide) (by decide) rfl (Nat.le_of_ble_eq_true rfl) (fun r n2 h2 q => ⟨q.1, by decide, q.2.1⟩) (fun n2 h2 q => ?_)
  obtain ⟨-, rfl, rfl⟩ := q
  show zRW _ _ (57, 2297) _ _ _ _ _ _
  refine z_pr (t := 58) eX11_init_151 flX11_81 zs0 (by decide) (by decide) rfl ⟨_, rfl, rfl⟩ rfl ?_
  refine z_al0 eX11_init_154 ?_
  refine z_newc (C := "DoorList$Rivals") (F := 6) (ci := 6) (b1 := 56) (b2 := 2291) eX11_init_155 (zT2 89 rfl rfl) (zT2 90 rfl rfl) (zT1 9 rfl rfl) rfl zs60 (by decide) (funext fun i => congrFun d60 i) ?_
  refine z_dup eX11_init_158 zn2 ?_
  refine z_al0 eX11_init_159 ?_
  refine z_gr (t := 4) eX11_init_160 fX11_25 zs0 (by decide) (by decide) rfl ?_
  refine z_al0 eX11_init_163 ?_
  refine z_gr (t := 50) eX11_init_164 fX11_65 zs0 (by decide) (by decide) rfl ?_
  refine z_ini (a := 60) (as := [zA 4, zA 50]) (st := [zA 60, zA 0]) eX11_init_167 lX11_87 tX6_init (c_60 _ (funext fun i => congrFun d61 i) (funext fun i => congrFun d62 i)) (by decide) (by decide) (by decide) rfl (Nat.le_of_ble_eq_true rfl) (fun r n2 h2 q => ⟨q.1, by decide, q.2.1⟩) (fun n2 h2 q => ?_)
  obtain ⟨-, rfl, rfl⟩ := q
  show zRW _ _ (54, 1779) _ _ _ _ _ _
  refine z_pr (t := 60) eX11_init_170 flX11_88 zs0 (by decide) (by decide) rfl ⟨_, rfl, rfl⟩ rfl ?_
  refine z_al0 eX11_init_173 ?_
  refine z_newc (C := "DoorList$Chances") (F := 7) (ci := 1) (b1 := 53) (b2 := 1772) eX11_init_174 (zT2 116 rfl rfl) (zT2 117 rfl rfl) (zT1 10 rfl rfl) rfl zs63 (by decide) (funext fun i => congrFun d63 i) ?_
  refine z_dup eX11_init_177 zn2 ?_
  refine z_al0 eX11_init_178 ?_
  refine z_gr (t := 4) eX11_init_179 fX11_25 zs0 (by decide) (by decide) rfl ?_
  refine z_al0 eX11_init_182 ?_
  refine z_gr (t := 50) eX11_init_183 fX11_65 zs0 (by decide) (by decide) rfl ?_
  refine z_ini (a := 63) (as := [zA 4, zA 50]) (st := [zA 63, zA 0]) eX11_init_186 lX11_94 tX1_init (c_63 _ (funext fun i => congrFun d64 i)) (by decide) (by decide) (by decide) rfl (Nat.le_of_ble_eq_true rfl) (fun r n2 h2 q => ⟨q.1, by decide, q.2.1⟩) (fun n2 h2 q => ?_)
  obtain ⟨-, rfl, rfl⟩ := q
  show zRW _ _ (52, 1752) _ _ _ _ _ _
  refine z_pr (t := 63) eX11_init_189 flX11_95 zs0 (by decide) (by decide) rfl ⟨_, rfl, rfl⟩ rfl ?_
  refine z_al0 eX11_init_192 ?_
  refine z_newc (C := "DoorList$Doing") (F := 9) (ci := 3) (b1 := 51) (b2 := 1743) eX11_init_193 (zT2 146 rfl rfl) (zT2 147 rfl rfl) (zT1 11 rfl rfl) rfl zs65 (by decide) (funext fun i => congrFun d65 i) ?_
  refine z_dup eX11_init_196 zn2 ?_
  refine z_al0 eX11_init_197 ?_
  refine z_gr (t := 32) eX11_init_198 fX11_45 zs0 (by decide) (by decide) rfl ?_
  refine z_al0 eX11_init_201 ?_
  refine z_gr (t := 4) eX11_init_202 fX11_25 zs0 (by decide) (by decide) rfl ?_
  refine z_al0 eX11_init_205 ?_
  refine z_gr (t := 50) eX11_init_206 fX11_65 zs0 (by decide) (by decide) rfl ?_
  refine z_ini (a := 65) (as := [zA 32, zA 4, zA 50]) (st := [zA 65, zA 0]) eX11_init_209 lX11_101 tX3_init (c_65 _ (funext fun i => congrFun d66 i)) (by decide) (by decide) (by decide) rfl (Nat.le_of_ble_eq_true rfl) (fun r n2 h2 q => ⟨q.1, by decide, q.2.1⟩) (fun n2 h2 q => ?_)
  obtain ⟨-, rfl, rfl⟩ := q
  show zRW _ _ (50, 1663) _ _ _ _ _ _
  refine z_pr (t := 65) eX11_init_212 flX11_104 zs0 (by decide) (by decide) rfl ⟨_, rfl, rfl⟩ rfl ?_
  refine z_ki eX11_init_215 ?_
  refine z_is1 eX11_init_216 zn2 ?_
  refine z_il1 eX11_init_217 ?_
  refine z_ki eX11_init_218 ?_
  refine z_cge eX11_init_219 rfl (fun c219 => absurd c219 (by decide)) (fun c219 => ?_)
  refine z_al0 eX11_init_222 ?_
  refine z_gr (t := 1) eX11_init_223 fX11_11 zs0 (by decide) (by decide) rfl ?_
  refine z_il1 eX11_init_226 ?_
  refine z_newc (C := "DoorList$Tray") (F := 4) (ci := 10) (b1 := 49) (b2 := 1659) eX11_init_227 (zT1 30 rfl rfl) (zT2 185 rfl rfl) (zT1 12 rfl rfl) rfl zs67 (by decide) (funext fun i => congrFun d67 i) ?_
  refine z_dup eX11_init_230 zn2 ?_
  refine z_inn (host := "DoorList") (a := 67) (as := []) (st := [zA 67, zI 0, zA 1]) eX11_init_231 (by decide) tX10_init (c_67 _ (funext fun i => congrFun d68 i)) (by decide) (by decide) (by decide) rfl (Nat.le_of_ble_eq_true rfl) (fun r n2 h2 q => ⟨q.1, by decide, q.2.1⟩) (fun n2 h2 q => ?_)
  obtain ⟨-, rfl, rfl⟩ := q
  show zRW _ _ (48, 1599) _ _ _ _ _ _
  refine z_aasr (t := 67) (j := 0) eX11_init_234 zs1 (by decide) (by decide) (by decide) zs67 (ct := 10) rfl rfl (by decide) (by decide) (by decide) ?_
  refine z_incN1 eX11_init_235 zn2 (by decide) (by decide) ?_
  rw [show (0 : Int) + 1 = 1 from rfl]
  refine z_goto eX11_init_238 rfl ?_
  refine z_il1 eX11_init_217 ?_
  refine z_ki eX11_init_218 ?_
  refine z_cge eX11_init_219 rfl (fun c219 => absurd c219 (by decide)) (fun c219 => ?_)
  refine z_al0 eX11_init_222 ?_
  refine z_gr (t := 1) eX11_init_223 fX11_11 zs0 (by decide) (by decide) rfl ?_
  refine z_il1 eX11_init_226 ?_
  refine z_newc (C := "DoorList$Tray") (F := 4) (ci := 10) (b1 := 47) (b2 := 1595) eX11_init_227 (zT1 30 rfl rfl) (zT2 185 rfl rfl) (zT1 12 rfl rfl) rfl zs69 (by decide) (funext fun i => congrFun d69 i) ?_
  refine z_dup eX11_init_230 zn2 ?_
  refine z_inn (host := "DoorList") (a := 69) (as := []) (st := [zA 69, zI 1, zA 1]) eX11_init_231 (by decide) tX10_init (c_69 _ (funext fun i => congrFun d70 i)) (by decide) (by decide) (by decide) rfl (Nat.le_of_ble_eq_true rfl) (fun r n2 h2 q => ⟨q.1, by decide, q.2.1⟩) (fun n2 h2 q => ?_)
  obtain ⟨-, rfl, rfl⟩ := q
  show zRW _ _ (46, 1535) _ _ _ _ _ _
  refine z_aasr (t := 69) (j := 1) eX11_init_234 zs1 (by decide) (by decide) (by decide) zs69 (ct := 10) rfl rfl (by decide) (by decide) (by decide) ?_
  refine z_incN1 eX11_init_235 zn2 (by decide) (by decide) ?_
  rw [show (1 : Int) + 1 = 2 from rfl]
  refine z_goto eX11_init_238 rfl ?_
  refine z_il1 eX11_init_217 ?_
  refine z_ki eX11_init_218 ?_
  refine z_cge eX11_init_219 rfl (fun c219 => absurd c219 (by decide)) (fun c219 => ?_)
  refine z_al0 eX11_init_222 ?_
  refine z_gr (t := 1) eX11_init_223 fX11_11 zs0 (by decide) (by decide) rfl ?_
  refine z_il1 eX11_init_226 ?_
  refine z_newc (C := "DoorList$Tray") (F := 4) (ci := 10) (b1 := 45) (b2 := 1531) eX11_init_227 (zT1 30 rfl rfl) (zT2 185 rfl rfl) (zT1 12 rfl rfl) rfl zs71 (by decide) (funext fun i => congrFun d71 i) ?_
  refine z_dup eX11_init_230 zn2 ?_
  refine z_inn (host := "DoorList") (a := 71) (as := []) (st := [zA 71, zI 2, zA 1]) eX11_init_231 (by decide) tX10_init (c_71 _ (funext fun i => congrFun d72 i)) (by decide) (by decide) (by decide) rfl (Nat.le_of_ble_eq_true rfl) (fun r n2 h2 q => ⟨q.1, by decide, q.2.1⟩) (fun n2 h2 q => ?_)
  obtain ⟨-, rfl, rfl⟩ := q
  show zRW _ _ (44, 1471) _ _ _ _ _ _
  refine z_aasr (t := 71) (j := 2) eX11_init_234 zs1 (by decide) (by decide) (by decide) zs71 (ct := 10) rfl rfl (by decide) (by decide) (by decide) ?_
  refine z_incN1 eX11_init_235 zn2 (by decide) (by decide) ?_
  rw [show (2 : Int) + 1 = 3 from rfl]
  refine z_goto eX11_init_238 rfl ?_
  refine z_il1 eX11_init_217 ?_
  refine z_ki eX11_init_218 ?_
  refine z_cge eX11_init_219 rfl (fun c219 => absurd c219 (by decide)) (fun c219 => ?_)
  refine z_al0 eX11_init_222 ?_
  refine z_gr (t := 1) eX11_init_223 fX11_11 zs0 (by decide) (by decide) rfl ?_
  refine z_il1 eX11_init_226 ?_
  refine z_newc (C := "DoorList$Tray") (F := 4) (ci := 10) (b1 := 43) (b2 := 1467) eX11_init_227 (zT1 30 rfl rfl) (zT2 185 rfl rfl) (zT1 12 rfl rfl) rfl zs73 (by decide) (funext fun i => congrFun d73 i) ?_
  refine z_dup eX11_init_230 zn2 ?_
  refine z_inn (host := "DoorList") (a := 73) (as := []) (st := [zA 73, zI 3, zA 1]) eX11_init_231 (by decide) tX10_init (c_73 _ (funext fun i => congrFun d74 i)) (by decide) (by decide) (by decide) rfl (Nat.le_of_ble_eq_true rfl) (fun r n2 h2 q => ⟨q.1, by decide, q.2.1⟩) (fun n2 h2 q => ?_)
  obtain ⟨-, rfl, rfl⟩ := q
  show zRW _ _ (42, 1407) _ _ _ _ _ _
  refine z_aasr (t := 73) (j := 3) eX11_init_234 zs1 (by decide) (by decide) (by decide) zs73 (ct := 10) rfl rfl (by decide) (by decide) (by decide) ?_
  refine z_incN1 eX11_init_235 zn2 (by decide) (by decide) ?_
  rw [show (3 : Int) + 1 = 4 from rfl]
  refine z_goto eX11_init_238 rfl ?_
  refine z_il1 eX11_init_217 ?_
  refine z_ki eX11_init_218 ?_
  refine z_cge eX11_init_219 rfl (fun c219 => ?_) (fun c219 => absurd c219 (by decide))
  refine z_ki eX11_init_241 ?_
  refine z_is1 eX11_init_242 zn2 ?_
  refine z_il1 eX11_init_243 ?_
  refine z_ki eX11_init_244 ?_
  refine z_cge eX11_init_245 rfl (fun c245 => absurd c245 (by decide)) (fun c245 => ?_)
  refine z_al0 eX11_init_248 ?_
  refine z_gr (t := 48) eX11_init_249 fX11_52 zs0 (by decide) (by decide) rfl ?_
  refine z_il1 eX11_init_252 ?_
  refine z_newc (C := "DoorList$Hall") (F := 13) (ci := 5) (b1 := 41) (b2 := 1394) eX11_init_253 (zT1 78 rfl rfl) (zT1 79 rfl rfl) (zT1 3 rfl rfl) rfl zs75 (by decide) (funext fun i => congrFun d75 i) ?_
  refine z_dup eX11_init_256 zn2 ?_
  refine z_inn (host := "DoorList") (a := 75) (as := []) (st := [zA 75, zI 0, zA 48]) eX11_init_257 (by decide) tX5_init (c_75 _ (funext fun i => congrFun d76 i) (funext fun i => congrFun d77 i) (funext fun i => congrFun d78 i) (funext fun i => congrFun d79 i) (funext fun i => congrFun d80 i) (funext fun i => congrFun d81 i) (funext fun i => congrFun d82 i) (funext fun i => congrFun d83 i) (funext fun i => congrFun d84 i)) (by decide) (by decide) (by decide) rfl (Nat.le_of_ble_eq_true rfl) (fun r n2 h2 q => ⟨q.1, by decide, q.2.1⟩) (fun n2 h2 q => ?_)
  obtain ⟨-, rfl, rfl⟩ := q
  show zRW _ _ (32, 982) _ _ _ _ _ _
  refine z_aasr (t := 75) (j := 0) eX11_init_260 zs48 (by decide) (by decide) (by decide) zs75 (ct := 5) rfl rfl (by decide) (by decide) (by decide) ?_
  refine z_al0 eX11_init_261 ?_
  refine z_gr (t := 49) eX11_init_262 fX11_56 zs0 (by decide) (by decide) rfl ?_
  refine z_il1 eX11_init_265 ?_
  refine z_newc (C := "DoorList$Rule") (F := 4) (ci := 7) (b1 := 31) (b2 := 978) eX11_init_266 (zT1 157 rfl rfl) (zT1 158 rfl rfl) (zT1 4 rfl rfl) rfl zs85 (by decide) (funext fun i => congrFun d85 i) ?_
  refine z_dup eX11_init_269 zn2 ?_
  refine z_ini (a := 85) (as := []) (st := [zA 85, zI 0, zA 49]) eX11_init_270 lX11_34 tX7_init (c_85 _ (funext fun i => congrFun d86 i) (funext fun i => congrFun d87 i) (funext fun i => congrFun d88 i)) (by decide) (by decide) (by decide) rfl (Nat.le_of_ble_eq_true rfl) (fun r n2 h2 q => ⟨q.1, by decide, q.2.1⟩) (fun n2 h2 q => ?_)
  obtain ⟨-, rfl, rfl⟩ := q
  show zRW _ _ (28, 938) _ _ _ _ _ _
  refine z_aasr (t := 85) (j := 0) eX11_init_273 zs49 (by decide) (by decide) (by decide) zs85 (ct := 7) rfl rfl (by decide) (by decide) (by decide) ?_
  refine z_incN1 eX11_init_274 zn2 (by decide) (by decide) ?_
  rw [show (0 : Int) + 1 = 1 from rfl]
  refine z_goto eX11_init_277 rfl ?_
  refine z_il1 eX11_init_243 ?_
  refine z_ki eX11_init_244 ?_
  refine z_cge eX11_init_245 rfl (fun c245 => absurd c245 (by decide)) (fun c245 => ?_)
  refine z_al0 eX11_init_248 ?_
  refine z_gr (t := 48) eX11_init_249 fX11_52 zs0 (by decide) (by decide) rfl ?_
  refine z_il1 eX11_init_252 ?_
  refine z_newc (C := "DoorList$Hall") (F := 13) (ci := 5) (b1 := 27) (b2 := 925) eX11_init_253 (zT1 78 rfl rfl) (zT1 79 rfl rfl) (zT1 3 rfl rfl) rfl zs89 (by decide) (funext fun i => congrFun d89 i) ?_
  refine z_dup eX11_init_256 zn2 ?_
  refine z_inn (host := "DoorList") (a := 89) (as := []) (st := [zA 89, zI 1, zA 48]) eX11_init_257 (by decide) tX5_init (c_89 _ (funext fun i => congrFun d90 i) (funext fun i => congrFun d91 i) (funext fun i => congrFun d92 i) (funext fun i => congrFun d93 i) (funext fun i => congrFun d94 i) (funext fun i => congrFun d95 i) (funext fun i => congrFun d96 i) (funext fun i => congrFun d97 i) (funext fun i => congrFun d98 i)) (by decide) (by decide) (by decide) rfl (Nat.le_of_ble_eq_true rfl) (fun r n2 h2 q => ⟨q.1, by decide, q.2.1⟩) (fun n2 h2 q => ?_)
  obtain ⟨-, rfl, rfl⟩ := q
  show zRW _ _ (18, 513) _ _ _ _ _ _
  refine z_aasr (t := 89) (j := 1) eX11_init_260 zs48 (by decide) (by decide) (by decide) zs89 (ct := 5) rfl rfl (by decide) (by decide) (by decide) ?_
  refine z_al0 eX11_init_261 ?_
  refine z_gr (t := 49) eX11_init_262 fX11_56 zs0 (by decide) (by decide) rfl ?_
  refine z_il1 eX11_init_265 ?_
  refine z_newc (C := "DoorList$Rule") (F := 4) (ci := 7) (b1 := 17) (b2 := 509) eX11_init_266 (zT1 157 rfl rfl) (zT1 158 rfl rfl) (zT1 4 rfl rfl) rfl zs99 (by decide) (funext fun i => congrFun d99 i) ?_
  refine z_dup eX11_init_269 zn2 ?_
  refine z_ini (a := 99) (as := []) (st := [zA 99, zI 1, zA 49]) eX11_init_270 lX11_34 tX7_init (c_99 _ (funext fun i => congrFun d100 i) (funext fun i => congrFun d101 i) (funext fun i => congrFun d102 i)) (by decide) (by decide) (by decide) rfl (Nat.le_of_ble_eq_true rfl) (fun r n2 h2 q => ⟨q.1, by decide, q.2.1⟩) (fun n2 h2 q => ?_)
  obtain ⟨-, rfl, rfl⟩ := q
  show zRW _ _ (14, 469) _ _ _ _ _ _
  refine z_aasr (t := 99) (j := 1) eX11_init_273 zs49 (by decide) (by decide) (by decide) zs99 (ct := 7) rfl rfl (by decide) (by decide) (by decide) ?_
  refine z_incN1 eX11_init_274 zn2 (by decide) (by decide) ?_
  rw [show (1 : Int) + 1 = 2 from rfl]
  refine z_goto eX11_init_277 rfl ?_
  refine z_il1 eX11_init_243 ?_
  refine z_ki eX11_init_244 ?_
  refine z_cge eX11_init_245 rfl (fun c245 => absurd c245 (by decide)) (fun c245 => ?_)
  refine z_al0 eX11_init_248 ?_
  refine z_gr (t := 48) eX11_init_249 fX11_52 zs0 (by decide) (by decide) rfl ?_
  refine z_il1 eX11_init_252 ?_
  refine z_newc (C := "DoorList$Hall") (F := 13) (ci := 5) (b1 := 13) (b2 := 456) eX11_init_253 (zT1 78 rfl rfl) (zT1 79 rfl rfl) (zT1 3 rfl rfl) rfl zs103 (by decide) (funext fun i => congrFun d103 i) ?_
  refine z_dup eX11_init_256 zn2 ?_
  refine z_inn (host := "DoorList") (a := 103) (as := []) (st := [zA 103, zI 2, zA 48]) eX11_init_257 (by decide) tX5_init (c_103 _ (funext fun i => congrFun d104 i) (funext fun i => congrFun d105 i) (funext fun i => congrFun d106 i) (funext fun i => congrFun d107 i) (funext fun i => congrFun d108 i) (funext fun i => congrFun d109 i) (funext fun i => congrFun d110 i) (funext fun i => congrFun d111 i) (funext fun i => congrFun d112 i)) (by decide) (by decide) (by decide) rfl (Nat.le_of_ble_eq_true rfl) (fun r n2 h2 q => ⟨q.1, by decide, q.2.1⟩) (fun n2 h2 q => ?_)
  obtain ⟨-, rfl, rfl⟩ := q
  show zRW _ _ (4, 44) _ _ _ _ _ _
  refine z_aasr (t := 103) (j := 2) eX11_init_260 zs48 (by decide) (by decide) (by decide) zs103 (ct := 5) rfl rfl (by decide) (by decide) (by decide) ?_
  refine z_al0 eX11_init_261 ?_
  refine z_gr (t := 49) eX11_init_262 fX11_56 zs0 (by decide) (by decide) rfl ?_
  refine z_il1 eX11_init_265 ?_
  refine z_newc (C := "DoorList$Rule") (F := 4) (ci := 7) (b1 := 3) (b2 := 40) eX11_init_266 (zT1 157 rfl rfl) (zT1 158 rfl rfl) (zT1 4 rfl rfl) rfl zs113 (by decide) (funext fun i => congrFun d113 i) ?_
  refine z_dup eX11_init_269 zn2 ?_
  refine z_ini (a := 113) (as := []) (st := [zA 113, zI 2, zA 49]) eX11_init_270 lX11_34 tX7_init (c_113 _ (funext fun i => congrFun d114 i) (funext fun i => congrFun d115 i) (funext fun i => congrFun d116 i)) (by decide) (by decide) (by decide) rfl (Nat.le_of_ble_eq_true rfl) (fun r n2 h2 q => ⟨q.1, by decide, q.2.1⟩) (fun n2 h2 q => ?_)
  obtain ⟨-, rfl, rfl⟩ := q
  show zRW _ _ (0, 0) _ _ _ _ _ _
  refine z_aasr (t := 113) (j := 2) eX11_init_273 zs49 (by decide) (by decide) (by decide) zs113 (ct := 7) rfl rfl (by decide) (by decide) (by decide) ?_
  refine z_incN1 eX11_init_274 zn2 (by decide) (by decide) ?_
  rw [show (2 : Int) + 1 = 3 from rfl]
  refine z_goto eX11_init_277 rfl ?_
  refine z_il1 eX11_init_243 ?_
  refine z_ki eX11_init_244 ?_
  refine z_cge eX11_init_245 rfl (fun c245 => ?_) (fun c245 => absurd c245 (by decide))
  exact z_vretG eX11_init_280 rfl ⟨rfl, rfl, rfl⟩
set_option maxRecDepth 4000 in
set_option maxHeartbeats 4000000 in
theorem c_117 (h : zHp) (d118 : h 118 = zdf 118) (d119 : h 119 = zdf 119) (d120 : h 120 = zdf 120) (d121 : h 121 = zdf 121) (d122 : h 122 = zdf 122) (d123 : h 123 = zdf 123) (d124 : h 124 = zdf 124) (d125 : h 125 = zdf 125) (d126 : h 126 = zdf 126) (d127 : h 127 = zdf 127) (d128 : h 128 = zdf 128) (d129 : h 129 = zdf 129) (d130 : h 130 = zdf 130) (d131 : h 131 = zdf 131) (d132 : h 132 = zdf 132) (d133 : h 133 = zdf 133) (d134 : h 134 = zdf 134) (d135 : h 135 = zdf 135) (d136 : h 136 = zdf 136) (d137 : h 137 = zdf 137) (d138 : h 138 = zdf 138) (d139 : h 139 = zdf 139) (d140 : h 140 = zdf 140) (d141 : h 141 = zdf 141) : zCall mX12_init 1 (24, 4808) [zA 117] 118 h (fun r n2 h2 => r = none ∧ n2 = 142 ∧ zups h [(117, 3, 1), (117, 4, 118), (117, 5, 119), (117, 6, 120), (117, 7, 121), (117, 10, -1), (117, 11, -1), (117, 20, 122), (117, 21, 123), (117, 23, 124), (117, 24, 125), (117, 36, 126), (117, 37, 127), (117, 38, 128), (117, 39, 129), (117, 40, 130), (117, 41, 131), (117, 42, 132), (117, 43, 133), (117, 44, 134), (117, 45, 135), (117, 53, 136), (117, 54, 137), (117, 55, 138), (117, 61, -1), (117, 63, 139), (117, 69, 140), (117, 71, 141), (119, 0, -1), (119, 1, -1), (119, 2, -1), (119, 3, -1), (122, 240, 1)] = h2) := by
  refine z_enter [zA 117, zU] (by decide +kernel) (Nat.le_of_ble_eq_true rfl) rfl (fun hra hrg => ?_)
  refine z_al0 eX12_init_0 ?_
  refine z_obj eX12_init_1 (zT6 24 rfl rfl) (zT1 28 rfl rfl) (zT1 29 rfl rfl) (by decide) (Nat.le_of_ble_eq_true rfl) ?_
  refine z_al0 eX12_init_4 ?_
  refine z_kj eX12_init_5 ?_
  refine z_pjn eX12_init_6 pX12_7 zs117 (by decide) (by decide) ?_
  refine z_al0 eX12_init_9 ?_
  refine z_ki eX12_init_10 ?_
  refine z_newp (kd := 20) (sz := 4) (b1 := 23) (b2 := 4804) eX12_init_11 (zT1 156 rfl rfl) rfl (by decide) zs118 (by decide) (by decide) (funext fun i => congrFun d118 i) ?_
  refine z_pr (t := 118) eX12_init_13 flX12_13 zs117 (by decide) (by decide) rfl ⟨_, rfl, rfl⟩ rfl ?_
  refine z_al0 eX12_init_16 ?_
  refine z_ki eX12_init_17 ?_
  refine z_newp (kd := 20) (sz := 4) (b1 := 22) (b2 := 4800) eX12_init_18 (zT1 156 rfl rfl) rfl (by decide) zs119 (by decide) (by decide) (funext fun i => congrFun d119 i) ?_
  refine z_pr (t := 119) eX12_init_20 flX12_17 zs117 (by decide) (by decide) rfl ⟨_, rfl, rfl⟩ rfl ?_
  refine z_al0 eX12_init_23 ?_
  refine z_ki eX12_init_24 ?_
  refine z_newp (kd := 21) (sz := 240) (b1 := 21) (b2 := 4560) eX12_init_27 (zT1 155 rfl rfl) rfl (by decide) zs120 (by decide) (by decide) (funext fun i => congrFun d120 i) ?_
  refine z_pr (t := 120) eX12_init_29 flX12_20 zs117 (by decide) (by decide) rfl ⟨_, rfl, rfl⟩ rfl ?_
  refine z_al0 eX12_init_32 ?_
  refine z_ki eX12_init_33 ?_
  refine z_newp (kd := 22) (sz := 700) (b1 := 20) (b2 := 3860) eX12_init_36 (zT1 77 rfl rfl) rfl (by decide) zs121 (by decide) (by decide) (funext fun i => congrFun d121 i) ?_
  refine z_pr (t := 121) eX12_init_38 flX12_24 zs117 (by decide) (by decide) rfl ⟨_, rfl, rfl⟩ rfl ?_
  refine z_al0 eX12_init_41 ?_
  refine z_ki eX12_init_42 ?_
  refine z_pin eX12_init_43 pX12_28 zs117 (by decide) (by decide) ?_
  refine z_al0 eX12_init_46 ?_
  refine z_ki eX12_init_47 ?_
  refine z_pin eX12_init_48 pX12_32 zs117 (by decide) (by decide) ?_
  refine z_al0 eX12_init_51 ?_
  refine z_ki eX12_init_52 ?_
  refine z_newp (kd := 20) (sz := 1500) (b1 := 19) (b2 := 2360) eX12_init_55 (zT1 156 rfl rfl) rfl (by decide) zs122 (by decide) (by decide) (funext fun i => congrFun d122 i) ?_
  refine z_pr (t := 122) eX12_init_57 flX12_35 zs117 (by decide) (by decide) rfl ⟨_, rfl, rfl⟩ rfl ?_
  refine z_al0 eX12_init_60 ?_
  refine z_ki eX12_init_61 ?_
  refine z_newp (kd := 21) (sz := 40) (b1 := 18) (b2 := 2320) eX12_init_63 (zT1 155 rfl rfl) rfl (by decide) zs123 (by decide) (by decide) (funext fun i => congrFun d123 i) ?_
  refine z_pr (t := 123) eX12_init_65 flX12_38 zs117 (by decide) (by decide) rfl ⟨_, rfl, rfl⟩ rfl ?_
  refine z_al0 eX12_init_68 ?_
  refine z_ki eX12_init_69 ?_
  refine z_newp (kd := 20) (sz := 20) (b1 := 17) (b2 := 2300) eX12_init_71 (zT1 156 rfl rfl) rfl (by decide) zs124 (by decide) (by decide) (funext fun i => congrFun d124 i) ?_
  refine z_pr (t := 124) eX12_init_73 flX12_41 zs117 (by decide) (by decide) rfl ⟨_, rfl, rfl⟩ rfl ?_
  refine z_al0 eX12_init_76 ?_
  refine z_ki eX12_init_77 ?_
  refine z_newp (kd := 20) (sz := 8) (b1 := 16) (b2 := 2292) eX12_init_79 (zT1 156 rfl rfl) rfl (by decide) zs125 (by decide) (by decide) (funext fun i => congrFun d125 i) ?_
  refine z_pr (t := 125) eX12_init_81 flX12_44 zs117 (by decide) (by decide) rfl ⟨_, rfl, rfl⟩ rfl ?_
  refine z_al0 eX12_init_84 ?_
  refine z_ki eX12_init_85 ?_
  refine z_newp (kd := 20) (sz := 40) (b1 := 15) (b2 := 2252) eX12_init_87 (zT1 156 rfl rfl) rfl (by decide) zs126 (by decide) (by decide) (funext fun i => congrFun d126 i) ?_
  refine z_pr (t := 126) eX12_init_89 flX12_47 zs117 (by decide) (by decide) rfl ⟨_, rfl, rfl⟩ rfl ?_
  refine z_al0 eX12_init_92 ?_
  refine z_ki eX12_init_93 ?_
  refine z_newp (kd := 20) (sz := 40) (b1 := 14) (b2 := 2212) eX12_init_95 (zT1 156 rfl rfl) rfl (by decide) zs127 (by decide) (by decide) (funext fun i => congrFun d127 i) ?_
  refine z_pr (t := 127) eX12_init_97 flX12_50 zs117 (by decide) (by decide) rfl ⟨_, rfl, rfl⟩ rfl ?_
  refine z_al0 eX12_init_100 ?_
  refine z_ki eX12_init_101 ?_
  refine z_newp (kd := 20) (sz := 40) (b1 := 13) (b2 := 2172) eX12_init_103 (zT1 156 rfl rfl) rfl (by decide) zs128 (by decide) (by decide) (funext fun i => congrFun d128 i) ?_
  refine z_pr (t := 128) eX12_init_105 flX12_53 zs117 (by decide) (by decide) rfl ⟨_, rfl, rfl⟩ rfl ?_
  refine z_al0 eX12_init_108 ?_
  refine z_ki eX12_init_109 ?_
  refine z_newp (kd := 20) (sz := 40) (b1 := 12) (b2 := 2132) eX12_init_111 (zT1 156 rfl rfl) rfl (by decide) zs129 (by decide) (by decide) (funext fun i => congrFun d129 i) ?_
  refine z_pr (t := 129) eX12_init_113 flX12_56 zs117 (by decide) (by decide) rfl ⟨_, rfl, rfl⟩ rfl ?_
  refine z_al0 eX12_init_116 ?_
  refine z_ki eX12_init_117 ?_
  refine z_newp (kd := 20) (sz := 40) (b1 := 11) (b2 := 2092) eX12_init_119 (zT1 156 rfl rfl) rfl (by decide) zs130 (by decide) (by decide) (funext fun i => congrFun d130 i) ?_
  refine z_pr (t := 130) eX12_init_121 flX12_59 zs117 (by decide) (by decide) rfl ⟨_, rfl, rfl⟩ rfl ?_
  refine z_al0 eX12_init_124 ?_
  refine z_ki eX12_init_125 ?_
  refine z_newp (kd := 20) (sz := 40) (b1 := 10) (b2 := 2052) eX12_init_127 (zT1 156 rfl rfl) rfl (by decide) zs131 (by decide) (by decide) (funext fun i => congrFun d131 i) ?_
  refine z_pr (t := 131) eX12_init_129 flX12_62 zs117 (by decide) (by decide) rfl ⟨_, rfl, rfl⟩ rfl ?_
  refine z_al0 eX12_init_132 ?_
  refine z_ki eX12_init_133 ?_
  refine z_newp (kd := 20) (sz := 40) (b1 := 9) (b2 := 2012) eX12_init_135 (zT1 156 rfl rfl) rfl (by decide) zs132 (by decide) (by decide) (funext fun i => congrFun d132 i) ?_
  refine z_pr (t := 132) eX12_init_137 flX12_65 zs117 (by decide) (by decide) rfl ⟨_, rfl, rfl⟩ rfl ?_
  refine z_al0 eX12_init_140 ?_
  refine z_ki eX12_init_141 ?_
  refine z_newp (kd := 20) (sz := 40) (b1 := 8) (b2 := 1972) eX12_init_143 (zT1 156 rfl rfl) rfl (by decide) zs133 (by decide) (by decide) (funext fun i => congrFun d133 i) ?_
  refine z_pr (t := 133) eX12_init_145 flX12_68 zs117 (by decide) (by decide) rfl ⟨_, rfl, rfl⟩ rfl ?_
  refine z_al0 eX12_init_148 ?_
  refine z_ki eX12_init_149 ?_
  refine z_newp (kd := 21) (sz := 40) (b1 := 7) (b2 := 1932) eX12_init_151 (zT1 155 rfl rfl) rfl (by decide) zs134 (by decide) (by decide) (funext fun i => congrFun d134 i) ?_
  refine z_pr (t := 134) eX12_init_153 flX12_71 zs117 (by decide) (by decide) rfl ⟨_, rfl, rfl⟩ rfl ?_
  refine z_al0 eX12_init_156 ?_
  refine z_ki eX12_init_157 ?_
  refine z_newp (kd := 21) (sz := 40) (b1 := 6) (b2 := 1892) eX12_init_159 (zT1 155 rfl rfl) rfl (by decide) zs135 (by decide) (by decide) (funext fun i => congrFun d135 i) ?_
  refine z_pr (t := 135) eX12_init_161 flX12_74 zs117 (by decide) (by decide) rfl ⟨_, rfl, rfl⟩ rfl ?_
  refine z_al0 eX12_init_164 ?_
  refine z_ki eX12_init_165 ?_
  refine z_newp (kd := 20) (sz := 20) (b1 := 5) (b2 := 1872) eX12_init_167 (zT1 156 rfl rfl) rfl (by decide) zs136 (by decide) (by decide) (funext fun i => congrFun d136 i) ?_
  refine z_pr (t := 136) eX12_init_169 flX12_77 zs117 (by decide) (by decide) rfl ⟨_, rfl, rfl⟩ rfl ?_
  refine z_al0 eX12_init_172 ?_
  refine z_ki eX12_init_173 ?_
  refine z_newp (kd := 20) (sz := 20) (b1 := 4) (b2 := 1852) eX12_init_175 (zT1 156 rfl rfl) rfl (by decide) zs137 (by decide) (by decide) (funext fun i => congrFun d137 i) ?_
  refine z_pr (t := 137) eX12_init_177 flX12_80 zs117 (by decide) (by decide) rfl ⟨_, rfl, rfl⟩ rfl ?_
  refine z_al0 eX12_init_180 ?_
  refine z_ki eX12_init_181 ?_
  refine z_newp (kd := 20) (sz := 20) (b1 := 3) (b2 := 1832) eX12_init_183 (zT1 156 rfl rfl) rfl (by decide) zs138 (by decide) (by decide) (funext fun i => congrFun d138 i) ?_
  refine z_pr (t := 138) eX12_init_185 flX12_83 zs117 (by decide) (by decide) rfl ⟨_, rfl, rfl⟩ rfl ?_
  refine z_al0 eX12_init_188 ?_
  refine z_ki eX12_init_189 ?_
  refine z_pin eX12_init_190 pX12_86 zs117 (by decide) (by decide) ?_
  refine z_al0 eX12_init_193 ?_
  refine z_ki eX12_init_194 ?_
  refine z_newp (kd := 20) (sz := 1792) (b1 := 2) (b2 := 40) eX12_init_197 (zT1 156 rfl rfl) rfl (by decide) zs139 (by decide) (by decide) (funext fun i => congrFun d139 i) ?_
  refine z_pr (t := 139) eX12_init_199 flX12_89 zs117 (by decide) (by decide) rfl ⟨_, rfl, rfl⟩ rfl ?_
  refine z_al0 eX12_init_202 ?_
  refine z_ki eX12_init_203 ?_
  refine z_newp (kd := 21) (sz := 20) (b1 := 1) (b2 := 20) eX12_init_205 (zT1 155 rfl rfl) rfl (by decide) zs140 (by decide) (by decide) (funext fun i => congrFun d140 i) ?_
  refine z_pr (t := 140) eX12_init_207 flX12_92 zs117 (by decide) (by decide) rfl ⟨_, rfl, rfl⟩ rfl ?_
  refine z_al0 eX12_init_210 ?_
  refine z_ki eX12_init_211 ?_
  refine z_newp (kd := 20) (sz := 20) (b1 := 0) (b2 := 0) eX12_init_213 (zT1 156 rfl rfl) rfl (by decide) zs141 (by decide) (by decide) (funext fun i => congrFun d141 i) ?_
  refine z_pr (t := 141) eX12_init_215 flX12_95 zs117 (by decide) (by decide) rfl ⟨_, rfl, rfl⟩ rfl ?_
  refine z_ki eX12_init_218 ?_
  refine z_is1 eX12_init_219 zn2 ?_
  refine z_il1 eX12_init_220 ?_
  refine z_ki eX12_init_221 ?_
  refine z_cge eX12_init_222 rfl (fun c222 => absurd c222 (by decide)) (fun c222 => ?_)
  refine z_al0 eX12_init_225 ?_
  refine z_gr (t := 119) eX12_init_226 fX12_17 zs117 (by decide) (by decide) rfl ?_
  refine z_il1 eX12_init_229 ?_
  refine z_ki eX12_init_230 ?_
  refine z_iast eX12_init_231 zs119 (by decide) (by decide) (by decide) ?_
  refine z_incN1 eX12_init_232 zn2 (by decide) (by decide) ?_
  rw [show (0 : Int) + 1 = 1 from rfl]
  refine z_goto eX12_init_235 rfl ?_
  refine z_il1 eX12_init_220 ?_
  refine z_ki eX12_init_221 ?_
  refine z_cge eX12_init_222 rfl (fun c222 => absurd c222 (by decide)) (fun c222 => ?_)
  refine z_al0 eX12_init_225 ?_
  refine z_gr (t := 119) eX12_init_226 fX12_17 zs117 (by decide) (by decide) rfl ?_
  refine z_il1 eX12_init_229 ?_
  refine z_ki eX12_init_230 ?_
  refine z_iast eX12_init_231 zs119 (by decide) (by decide) (by decide) ?_
  refine z_incN1 eX12_init_232 zn2 (by decide) (by decide) ?_
  rw [show (1 : Int) + 1 = 2 from rfl]
  refine z_goto eX12_init_235 rfl ?_
  refine z_il1 eX12_init_220 ?_
  refine z_ki eX12_init_221 ?_
  refine z_cge eX12_init_222 rfl (fun c222 => absurd c222 (by decide)) (fun c222 => ?_)
  refine z_al0 eX12_init_225 ?_
  refine z_gr (t := 119) eX12_init_226 fX12_17 zs117 (by decide) (by decide) rfl ?_
  refine z_il1 eX12_init_229 ?_
  refine z_ki eX12_init_230 ?_
  refine z_iast eX12_init_231 zs119 (by decide) (by decide) (by decide) ?_
  refine z_incN1 eX12_init_232 zn2 (by decide) (by decide) ?_
  rw [show (2 : Int) + 1 = 3 from rfl]
  refine z_goto eX12_init_235 rfl ?_
  refine z_il1 eX12_init_220 ?_
  refine z_ki eX12_init_221 ?_
  refine z_cge eX12_init_222 rfl (fun c222 => absurd c222 (by decide)) (fun c222 => ?_)
  refine z_al0 eX12_init_225 ?_
  refine z_gr (t := 119) eX12_init_226 fX12_17 zs117 (by decide) (by decide) rfl ?_
  refine z_il1 eX12_init_229 ?_
  refine z_ki eX12_init_230 ?_
  refine z_iast eX12_init_231 zs119 (by decide) (by decide) (by decide) ?_
  refine z_incN1 eX12_init_232 zn2 (by decide) (by decide) ?_
  rw [show (3 : Int) + 1 = 4 from rfl]
  refine z_goto eX12_init_235 rfl ?_
  refine z_il1 eX12_init_220 ?_
  refine z_ki eX12_init_221 ?_
  refine z_cge eX12_init_222 rfl (fun c222 => ?_) (fun c222 => absurd c222 (by decide))
  refine z_al0 eX12_init_238 ?_
  refine z_gr (t := 122) eX12_init_239 fX12_35 zs117 (by decide) (by decide) rfl ?_
  refine z_ki eX12_init_242 ?_
  refine z_ki eX12_init_245 ?_
  refine z_iast eX12_init_246 zs122 (by decide) (by decide) (by decide) ?_
  exact z_vretG eX12_init_247 rfl ⟨rfl, rfl, rfl⟩
