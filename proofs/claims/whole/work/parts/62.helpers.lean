theorem xl_13 : Cond.classLink R_Lw 13 X_IAE ∈ mWS := List.mem_filter.mpr (by decide +kernel)
theorem xl_19 : Cond.classLink R_Lw 19 X_ISE ∈ mWS := List.mem_filter.mpr (by decide +kernel)
theorem xl_25 : Cond.classLink R_Lw 25 X_IOB ∈ mWS := List.mem_filter.mpr (by decide +kernel)
def hh_load : List (Nat × Nat × Nat × Nat) := [(0, 8, 11, 13)]
theorem hw_load : Cond.codeWith y_Lw_load c_Lw_load 3 (some .int) hh_load ∈ mWS := mIn 308 (by decide +kernel) rfl
set_option maxRecDepth 100000 in
theorem h_load_r (l : Launch) (g : mG) (ad : Nat → Nat) (z : sT) {n9 : Nat} {v : Int32} {P : sT → Prop} (hn9 : n9 ≤ 6) (hM : sC l y_Pw_load c_Pw_load 2 (some .int) n9 g ad [.ref (ad 0)] z (fun r w => r = some (.int v) ∧ P w)) : hS l y_Lw_load c_Lw_load 3 (some .int) hh_load 7 g ad [.ref (ad 0), .ref (ad 144)] z (fun r w => r = some (.int 0) ∧ ∃ w1, P w1 ∧ w = sLg w1 v.toInt64) := by
  refine hS.intro (own := R_Lw) rfl (by decide) (by simp [Value.category]) (Nat.le_of_ble_eq_true rfl) (fun K0 K1 hB hB1 hE hE1 hT9 => ?_)
  show K0 0 [some (.ref (ad 0)), some (.ref (ad 144)), none] [] z
  refine hB.aload_n d_Lw_load_0 rfl ?_
  refine hB.iconst d_Lw_load_1 (v := 0) rfl ?_
  refine hB.aload_n d_Lw_load_2 rfl ?_
  refine hB.callV lk_Lw_7 cd_Pw_load hM rfl (by decide) sK_0 d_Lw_load_3 rfl rfl ⟨by show n9 + 1 ≤ 7; omega, by show 8 + (2 + 11) + 32 * n9 ≤ 224; omega⟩ (by simp [Value.category]) ?_
  rintro _ w1 ⟨rfl, hw1⟩
  refine hB.i2l d_Lw_load_6 rfl ?_
  refine hB.last d_Lw_load_7 ?_
  refine hB.goto d_Lw_load_8 (tgt := 14) rfl ?_
  refine hB.iconst d_Lw_load_14 (v := 0) rfl ?_
  exact hE.1 _ _ _ _ _ d_Lw_load_15 rfl rfl ⟨rfl, w1, hw1, rfl⟩
set_option maxRecDepth 100000 in
theorem h_load_x1 (l : Launch) (g : mG) (ad : Nat → Nat) (z : sT) {P : sT → Prop} (hX : xC l y_Pw_load c_Pw_load 2 (some .int) 6 g ad [.ref (ad 0)] z X_IAE P) : hS l y_Lw_load c_Lw_load 3 (some .int) hh_load 7 g ad [.ref (ad 0), .ref (ad 144)] z (fun r w => r = some (.int 1) ∧ P w) := by
  refine hS.intro (own := R_Lw) rfl (by decide) (by simp [Value.category]) (Nat.le_of_ble_eq_true rfl) (fun K0 K1 hB hB1 hE hE1 hT9 => ?_)
  show K0 0 [some (.ref (ad 0)), some (.ref (ad 144)), none] [] z
  refine hB.aload_n d_Lw_load_0 rfl ?_
  refine hB.iconst d_Lw_load_1 (v := 0) rfl ?_
  refine hB.aload_n d_Lw_load_2 rfl ?_
  refine hT9.callX lk_Lw_7 cd_Pw_load hX rfl (by decide) sK_0 d_Lw_load_3 rfl rfl (by decide) (by simp [Value.category]) (pre := []) rfl (by decide) (by decide) xl_13 (by decide) (fun q hq => by cases hq) ?_
  intro a w hw
  refine hB1.astore_n d_Lw_load_11 (Nat.le_of_ble_eq_true rfl) ?_
  refine hB1.iconst d_Lw_load_12 (v := 1) rfl ?_
  exact hE1.1 _ _ _ _ _ d_Lw_load_13 rfl rfl ⟨rfl, hw⟩
def hh_event : List (Nat × Nat × Nat × Nat) := [(0, 14, 17, 19), (0, 14, 21, 13)]
theorem hw_event : Cond.codeWith y_Lw_event c_Lw_event 7 (some .int) hh_event ∈ mWS := mIn 455 (by decide +kernel) rfl
set_option maxRecDepth 100000 in
theorem h_event_r (l : Launch) (g : mG) (ad : Nat → Nat) (z : sT) (x1 x2 x3 x4 : Int32) {n9 : Nat} {v : Int32} {P : sT → Prop} (hn9 : n9 ≤ 6) (hM : sC l y_Pw_event c_Pw_event 5 (some .int) n9 g ad [.ref (ad 0), .int x1, .int x2, .int x3, .int x4] z (fun r w => r = some (.int v) ∧ P w)) : hS l y_Lw_event c_Lw_event 7 (some .int) hh_event 7 g ad [.ref (ad 0), .int x1, .int x2, .int x3, .int x4, .ref (ad 144)] z (fun r w => r = some (.int 0) ∧ ∃ w1, P w1 ∧ w = sLg w1 v.toInt64) := by
  refine hS.intro (own := R_Lw) rfl (by decide) (by simp [Value.category]) (Nat.le_of_ble_eq_true rfl) (fun K0 K1 hB hB1 hE hE1 hT9 => ?_)
  show K0 0 [some (.ref (ad 0)), some (.int x1), some (.int x2), some (.int x3), some (.int x4), some (.ref (ad 144)), none] [] z
  refine hB.aload d_Lw_event_0 rfl ?_
  refine hB.iconst d_Lw_event_2 (v := 0) rfl ?_
  refine hB.aload_n d_Lw_event_3 rfl ?_
  refine hB.iload_n d_Lw_event_4 rfl ?_
  refine hB.iload_n d_Lw_event_5 rfl ?_
  refine hB.iload_n d_Lw_event_6 rfl ?_
  refine hB.iload d_Lw_event_7 rfl ?_
  refine hB.callV lk_Lw_15 cd_Pw_event hM rfl (by decide) sK_0 d_Lw_event_9 rfl rfl ⟨by show n9 + 1 ≤ 7; omega, by show 8 + (5 + 11) + 32 * n9 ≤ 224; omega⟩ (by simp [Value.category]) ?_
  rintro _ w1 ⟨rfl, hw1⟩
  refine hB.i2l d_Lw_event_12 rfl ?_
  refine hB.last d_Lw_event_13 ?_
  refine hB.goto d_Lw_event_14 (tgt := 25) rfl ?_
  refine hB.iconst d_Lw_event_25 (v := 0) rfl ?_
  exact hE.1 _ _ _ _ _ d_Lw_event_26 rfl rfl ⟨rfl, w1, hw1, rfl⟩
set_option maxRecDepth 100000 in
theorem h_event_x1 (l : Launch) (g : mG) (ad : Nat → Nat) (z : sT) (x1 x2 x3 x4 : Int32) {P : sT → Prop} (hX : xC l y_Pw_event c_Pw_event 5 (some .int) 6 g ad [.ref (ad 0), .int x1, .int x2, .int x3, .int x4] z X_ISE P) : hS l y_Lw_event c_Lw_event 7 (some .int) hh_event 7 g ad [.ref (ad 0), .int x1, .int x2, .int x3, .int x4, .ref (ad 144)] z (fun r w => r = some (.int 1) ∧ P w) := by
  refine hS.intro (own := R_Lw) rfl (by decide) (by simp [Value.category]) (Nat.le_of_ble_eq_true rfl) (fun K0 K1 hB hB1 hE hE1 hT9 => ?_)
  show K0 0 [some (.ref (ad 0)), some (.int x1), some (.int x2), some (.int x3), some (.int x4), some (.ref (ad 144)), none] [] z
  refine hB.aload d_Lw_event_0 rfl ?_
  refine hB.iconst d_Lw_event_2 (v := 0) rfl ?_
  refine hB.aload_n d_Lw_event_3 rfl ?_
  refine hB.iload_n d_Lw_event_4 rfl ?_
  refine hB.iload_n d_Lw_event_5 rfl ?_
  refine hB.iload_n d_Lw_event_6 rfl ?_
  refine hB.iload d_Lw_event_7 rfl ?_
  refine hT9.callX lk_Lw_15 cd_Pw_event hX rfl (by decide) sK_0 d_Lw_event_9 rfl rfl (by decide) (by simp [Value.category]) (pre := []) rfl (by decide) (by decide) xl_19 (by decide) (fun q hq => by cases hq) ?_
  intro a w hw
  refine hB1.astore d_Lw_event_17 (Nat.le_of_ble_eq_true rfl) ?_
  refine hB1.iconst d_Lw_event_19 (v := 1) rfl ?_
  exact hE1.1 _ _ _ _ _ d_Lw_event_20 rfl rfl ⟨rfl, hw⟩
set_option maxRecDepth 100000 in
theorem h_event_x2 (l : Launch) (g : mG) (ad : Nat → Nat) (z : sT) (x1 x2 x3 x4 : Int32) {P : sT → Prop} (hX : xC l y_Pw_event c_Pw_event 5 (some .int) 6 g ad [.ref (ad 0), .int x1, .int x2, .int x3, .int x4] z X_IAE P) : hS l y_Lw_event c_Lw_event 7 (some .int) hh_event 7 g ad [.ref (ad 0), .int x1, .int x2, .int x3, .int x4, .ref (ad 144)] z (fun r w => r = some (.int 2) ∧ P w) := by
  refine hS.intro (own := R_Lw) rfl (by decide) (by simp [Value.category]) (Nat.le_of_ble_eq_true rfl) (fun K0 K1 hB hB1 hE hE1 hT9 => ?_)
  show K0 0 [some (.ref (ad 0)), some (.int x1), some (.int x2), some (.int x3), some (.int x4), some (.ref (ad 144)), none] [] z
  refine hB.aload d_Lw_event_0 rfl ?_
  refine hB.iconst d_Lw_event_2 (v := 0) rfl ?_
  refine hB.aload_n d_Lw_event_3 rfl ?_
  refine hB.iload_n d_Lw_event_4 rfl ?_
  refine hB.iload_n d_Lw_event_5 rfl ?_
  refine hB.iload_n d_Lw_event_6 rfl ?_
  refine hB.iload d_Lw_event_7 rfl ?_
  refine hT9.callX lk_Lw_15 cd_Pw_event hX rfl (by decide) sK_0 d_Lw_event_9 rfl rfl (by decide) (by simp [Value.category]) (pre := [(0, 14, 17, 19)]) rfl (by decide) (by decide) xl_13 (by decide) (fun q hq => by rw [List.mem_singleton.mp hq]; exact ⟨by decide, X_ISE, xl_19, by decide⟩) ?_
  intro a w hw
  refine hB1.astore d_Lw_event_21 (Nat.le_of_ble_eq_true rfl) ?_
  refine hB1.iconst d_Lw_event_23 (v := 2) rfl ?_
  exact hE1.1 _ _ _ _ _ d_Lw_event_24 rfl rfl ⟨rfl, hw⟩
def hh_size : List (Nat × Nat × Nat × Nat) := [(0, 9, 12, 25)]
theorem hw_size : Cond.codeWith y_Lw_size c_Lw_size 4 (some .int) hh_size ∈ mWS := mIn 563 (by decide +kernel) rfl
set_option maxRecDepth 100000 in
theorem h_size_r (l : Launch) (g : mG) (ad : Nat → Nat) (z : sT) (x1 : Int32) {n9 : Nat} {v : Int32} {P : sT → Prop} (hn9 : n9 ≤ 6) (hM : sC l y_Pw_size c_Pw_size 2 (some .int) n9 g ad [.ref (ad 0), .int x1] z (fun r w => r = some (.int v) ∧ P w)) : hS l y_Lw_size c_Lw_size 4 (some .int) hh_size 7 g ad [.ref (ad 0), .int x1, .ref (ad 144)] z (fun r w => r = some (.int 0) ∧ ∃ w1, P w1 ∧ w = sLg w1 v.toInt64) := by
  refine hS.intro (own := R_Lw) rfl (by decide) (by simp [Value.category]) (Nat.le_of_ble_eq_true rfl) (fun K0 K1 hB hB1 hE hE1 hT9 => ?_)
  show K0 0 [some (.ref (ad 0)), some (.int x1), some (.ref (ad 144)), none] [] z
  refine hB.aload_n d_Lw_size_0 rfl ?_
  refine hB.iconst d_Lw_size_1 (v := 0) rfl ?_
  refine hB.aload_n d_Lw_size_2 rfl ?_
  refine hB.iload_n d_Lw_size_3 rfl ?_
  refine hB.callV lk_Lw_21 cd_Pw_size hM rfl (by decide) sK_0 d_Lw_size_4 rfl rfl ⟨by show n9 + 1 ≤ 7; omega, by show 8 + (2 + 11) + 32 * n9 ≤ 224; omega⟩ (by simp [Value.category]) ?_
  rintro _ w1 ⟨rfl, hw1⟩
  refine hB.i2l d_Lw_size_7 rfl ?_
  refine hB.last d_Lw_size_8 ?_
  refine hB.goto d_Lw_size_9 (tgt := 15) rfl ?_
  refine hB.iconst d_Lw_size_15 (v := 0) rfl ?_
  exact hE.1 _ _ _ _ _ d_Lw_size_16 rfl rfl ⟨rfl, w1, hw1, rfl⟩
set_option maxRecDepth 100000 in
theorem h_size_x1 (l : Launch) (g : mG) (ad : Nat → Nat) (z : sT) (x1 : Int32) {P : sT → Prop} (hX : xC l y_Pw_size c_Pw_size 2 (some .int) 6 g ad [.ref (ad 0), .int x1] z X_IOB P) : hS l y_Lw_size c_Lw_size 4 (some .int) hh_size 7 g ad [.ref (ad 0), .int x1, .ref (ad 144)] z (fun r w => r = some (.int 1) ∧ P w) := by
  refine hS.intro (own := R_Lw) rfl (by decide) (by simp [Value.category]) (Nat.le_of_ble_eq_true rfl) (fun K0 K1 hB hB1 hE hE1 hT9 => ?_)
  show K0 0 [some (.ref (ad 0)), some (.int x1), some (.ref (ad 144)), none] [] z
  refine hB.aload_n d_Lw_size_0 rfl ?_
  refine hB.iconst d_Lw_size_1 (v := 0) rfl ?_
  refine hB.aload_n d_Lw_size_2 rfl ?_
  refine hB.iload_n d_Lw_size_3 rfl ?_
  refine hT9.callX lk_Lw_21 cd_Pw_size hX rfl (by decide) sK_0 d_Lw_size_4 rfl rfl (by decide) (by simp [Value.category]) (pre := []) rfl (by decide) (by decide) xl_25 (by decide) (fun q hq => by cases hq) ?_
  intro a w hw
  refine hB1.astore_n d_Lw_size_12 (Nat.le_of_ble_eq_true rfl) ?_
  refine hB1.iconst d_Lw_size_13 (v := 1) rfl ?_
  exact hE1.1 _ _ _ _ _ d_Lw_size_14 rfl rfl ⟨rfl, hw⟩
def hh_at : List (Nat × Nat × Nat × Nat) := [(0, 10, 13, 25)]
theorem hw_at : Cond.codeWith y_Lw_at c_Lw_at 5 (some .int) hh_at ∈ mWS := mIn 588 (by decide +kernel) rfl
set_option maxRecDepth 100000 in
theorem h_at_r (l : Launch) (g : mG) (ad : Nat → Nat) (z : sT) (x1 x2 : Int32) {n9 : Nat} {v : Int32} {P : sT → Prop} (hn9 : n9 ≤ 6) (hM : sC l y_Pw_at c_Pw_at 3 (some .int) n9 g ad [.ref (ad 0), .int x1, .int x2] z (fun r w => r = some (.int v) ∧ P w)) : hS l y_Lw_at c_Lw_at 5 (some .int) hh_at 7 g ad [.ref (ad 0), .int x1, .int x2, .ref (ad 144)] z (fun r w => r = some (.int 0) ∧ ∃ w1, P w1 ∧ w = sLg w1 v.toInt64) := by
  refine hS.intro (own := R_Lw) rfl (by decide) (by simp [Value.category]) (Nat.le_of_ble_eq_true rfl) (fun K0 K1 hB hB1 hE hE1 hT9 => ?_)
  show K0 0 [some (.ref (ad 0)), some (.int x1), some (.int x2), some (.ref (ad 144)), none] [] z
  refine hB.aload_n d_Lw_at_0 rfl ?_
  refine hB.iconst d_Lw_at_1 (v := 0) rfl ?_
  refine hB.aload_n d_Lw_at_2 rfl ?_
  refine hB.iload_n d_Lw_at_3 rfl ?_
  refine hB.iload_n d_Lw_at_4 rfl ?_
  refine hB.callV lk_Lw_27 cd_Pw_at hM rfl (by decide) sK_0 d_Lw_at_5 rfl rfl ⟨by show n9 + 1 ≤ 7; omega, by show 8 + (3 + 11) + 32 * n9 ≤ 224; omega⟩ (by simp [Value.category]) ?_
  rintro _ w1 ⟨rfl, hw1⟩
  refine hB.i2l d_Lw_at_8 rfl ?_
  refine hB.last d_Lw_at_9 ?_
  refine hB.goto d_Lw_at_10 (tgt := 17) rfl ?_
  refine hB.iconst d_Lw_at_17 (v := 0) rfl ?_
  exact hE.1 _ _ _ _ _ d_Lw_at_18 rfl rfl ⟨rfl, w1, hw1, rfl⟩
set_option maxRecDepth 100000 in
theorem h_at_x1 (l : Launch) (g : mG) (ad : Nat → Nat) (z : sT) (x1 x2 : Int32) {P : sT → Prop} (hX : xC l y_Pw_at c_Pw_at 3 (some .int) 6 g ad [.ref (ad 0), .int x1, .int x2] z X_IOB P) : hS l y_Lw_at c_Lw_at 5 (some .int) hh_at 7 g ad [.ref (ad 0), .int x1, .int x2, .ref (ad 144)] z (fun r w => r = some (.int 1) ∧ P w) := by
  refine hS.intro (own := R_Lw) rfl (by decide) (by simp [Value.category]) (Nat.le_of_ble_eq_true rfl) (fun K0 K1 hB hB1 hE hE1 hT9 => ?_)
  show K0 0 [some (.ref (ad 0)), some (.int x1), some (.int x2), some (.ref (ad 144)), none] [] z
  refine hB.aload_n d_Lw_at_0 rfl ?_
  refine hB.iconst d_Lw_at_1 (v := 0) rfl ?_
  refine hB.aload_n d_Lw_at_2 rfl ?_
  refine hB.iload_n d_Lw_at_3 rfl ?_
  refine hB.iload_n d_Lw_at_4 rfl ?_
  refine hT9.callX lk_Lw_27 cd_Pw_at hX rfl (by decide) sK_0 d_Lw_at_5 rfl rfl (by decide) (by simp [Value.category]) (pre := []) rfl (by decide) (by decide) xl_25 (by decide) (fun q hq => by cases hq) ?_
  intro a w hw
  refine hB1.astore d_Lw_at_13 (Nat.le_of_ble_eq_true rfl) ?_
  refine hB1.iconst d_Lw_at_15 (v := 1) rfl ?_
  exact hE1.1 _ _ _ _ _ d_Lw_at_16 rfl rfl ⟨rfl, hw⟩
def hh_run : List (Nat × Nat × Nat × Nat) := [(0, 10, 13, 25), (0, 10, 17, 13)]
theorem hw_run : Cond.codeWith y_Lw_run c_Lw_run 5 (some .int) hh_run ∈ mWS := mIn 596 (by decide +kernel) rfl
set_option maxRecDepth 100000 in
theorem h_run_r (l : Launch) (g : mG) (ad : Nat → Nat) (z : sT) (x1 x2 : Int32) {n9 : Nat} {v : Int32} {P : sT → Prop} (hn9 : n9 ≤ 6) (hM : sC l y_Pw_run c_Pw_run 4 (some .int) n9 g ad [.ref (ad 0), .int x1, .int x2] z (fun r w => r = some (.int v) ∧ P w)) : hS l y_Lw_run c_Lw_run 5 (some .int) hh_run 7 g ad [.ref (ad 0), .int x1, .int x2, .ref (ad 144)] z (fun r w => r = some (.int 0) ∧ ∃ w1, P w1 ∧ w = sLg w1 v.toInt64) := by
  refine hS.intro (own := R_Lw) rfl (by decide) (by simp [Value.category]) (Nat.le_of_ble_eq_true rfl) (fun K0 K1 hB hB1 hE hE1 hT9 => ?_)
  show K0 0 [some (.ref (ad 0)), some (.int x1), some (.int x2), some (.ref (ad 144)), none] [] z
  refine hB.aload_n d_Lw_run_0 rfl ?_
  refine hB.iconst d_Lw_run_1 (v := 0) rfl ?_
  refine hB.aload_n d_Lw_run_2 rfl ?_
  refine hB.iload_n d_Lw_run_3 rfl ?_
  refine hB.iload_n d_Lw_run_4 rfl ?_
  refine hB.callV lk_Lw_31 cd_Pw_run hM rfl (by decide) sK_0 d_Lw_run_5 rfl rfl ⟨by show n9 + 1 ≤ 7; omega, by show 8 + (4 + 11) + 32 * n9 ≤ 224; omega⟩ (by simp [Value.category]) ?_
  rintro _ w1 ⟨rfl, hw1⟩
  refine hB.i2l d_Lw_run_8 rfl ?_
  refine hB.last d_Lw_run_9 ?_
  refine hB.goto d_Lw_run_10 (tgt := 21) rfl ?_
  refine hB.iconst d_Lw_run_21 (v := 0) rfl ?_
  exact hE.1 _ _ _ _ _ d_Lw_run_22 rfl rfl ⟨rfl, w1, hw1, rfl⟩
set_option maxRecDepth 100000 in
theorem h_run_x1 (l : Launch) (g : mG) (ad : Nat → Nat) (z : sT) (x1 x2 : Int32) {P : sT → Prop} (hX : xC l y_Pw_run c_Pw_run 4 (some .int) 6 g ad [.ref (ad 0), .int x1, .int x2] z X_IOB P) : hS l y_Lw_run c_Lw_run 5 (some .int) hh_run 7 g ad [.ref (ad 0), .int x1, .int x2, .ref (ad 144)] z (fun r w => r = some (.int 1) ∧ P w) := by
  refine hS.intro (own := R_Lw) rfl (by decide) (by simp [Value.category]) (Nat.le_of_ble_eq_true rfl) (fun K0 K1 hB hB1 hE hE1 hT9 => ?_)
  show K0 0 [some (.ref (ad 0)), some (.int x1), some (.int x2), some (.ref (ad 144)), none] [] z
  refine hB.aload_n d_Lw_run_0 rfl ?_
  refine hB.iconst d_Lw_run_1 (v := 0) rfl ?_
  refine hB.aload_n d_Lw_run_2 rfl ?_
  refine hB.iload_n d_Lw_run_3 rfl ?_
  refine hB.iload_n d_Lw_run_4 rfl ?_
  refine hT9.callX lk_Lw_31 cd_Pw_run hX rfl (by decide) sK_0 d_Lw_run_5 rfl rfl (by decide) (by simp [Value.category]) (pre := []) rfl (by decide) (by decide) xl_25 (by decide) (fun q hq => by cases hq) ?_
  intro a w hw
  refine hB1.astore d_Lw_run_13 (Nat.le_of_ble_eq_true rfl) ?_
  refine hB1.iconst d_Lw_run_15 (v := 1) rfl ?_
  exact hE1.1 _ _ _ _ _ d_Lw_run_16 rfl rfl ⟨rfl, hw⟩
set_option maxRecDepth 100000 in
theorem h_run_x2 (l : Launch) (g : mG) (ad : Nat → Nat) (z : sT) (x1 x2 : Int32) {P : sT → Prop} (hX : xC l y_Pw_run c_Pw_run 4 (some .int) 6 g ad [.ref (ad 0), .int x1, .int x2] z X_IAE P) : hS l y_Lw_run c_Lw_run 5 (some .int) hh_run 7 g ad [.ref (ad 0), .int x1, .int x2, .ref (ad 144)] z (fun r w => r = some (.int 2) ∧ P w) := by
  refine hS.intro (own := R_Lw) rfl (by decide) (by simp [Value.category]) (Nat.le_of_ble_eq_true rfl) (fun K0 K1 hB hB1 hE hE1 hT9 => ?_)
  show K0 0 [some (.ref (ad 0)), some (.int x1), some (.int x2), some (.ref (ad 144)), none] [] z
  refine hB.aload_n d_Lw_run_0 rfl ?_
  refine hB.iconst d_Lw_run_1 (v := 0) rfl ?_
  refine hB.aload_n d_Lw_run_2 rfl ?_
  refine hB.iload_n d_Lw_run_3 rfl ?_
  refine hB.iload_n d_Lw_run_4 rfl ?_
  refine hT9.callX lk_Lw_31 cd_Pw_run hX rfl (by decide) sK_0 d_Lw_run_5 rfl rfl (by decide) (by simp [Value.category]) (pre := [(0, 10, 13, 25)]) rfl (by decide) (by decide) xl_13 (by decide) (fun q hq => by rw [List.mem_singleton.mp hq]; exact ⟨by decide, X_IOB, xl_25, by decide⟩) ?_
  intro a w hw
  refine hB1.astore d_Lw_run_17 (Nat.le_of_ble_eq_true rfl) ?_
  refine hB1.iconst d_Lw_run_19 (v := 2) rfl ?_
  exact hE1.1 _ _ _ _ _ d_Lw_run_20 rfl rfl ⟨rfl, hw⟩
def hh_figure : List (Nat × Nat × Nat × Nat) := [(0, 9, 12, 13)]
theorem hw_figure : Cond.codeWith y_Lw_figure c_Lw_figure 4 (some .int) hh_figure ∈ mWS := mIn 605 (by decide +kernel) rfl
set_option maxRecDepth 100000 in
theorem h_figure_r (l : Launch) (g : mG) (ad : Nat → Nat) (z : sT) (x1 : Int32) {n9 : Nat} {v : Int32} {P : sT → Prop} (hn9 : n9 ≤ 6) (hM : sC l y_Pw_figure c_Pw_figure 2 (some .int) n9 g ad [.ref (ad 0), .int x1] z (fun r w => r = some (.int v) ∧ P w)) : hS l y_Lw_figure c_Lw_figure 4 (some .int) hh_figure 7 g ad [.ref (ad 0), .int x1, .ref (ad 144)] z (fun r w => r = some (.int 0) ∧ ∃ w1, P w1 ∧ w = sLg w1 v.toInt64) := by
  refine hS.intro (own := R_Lw) rfl (by decide) (by simp [Value.category]) (Nat.le_of_ble_eq_true rfl) (fun K0 K1 hB hB1 hE hE1 hT9 => ?_)
  show K0 0 [some (.ref (ad 0)), some (.int x1), some (.ref (ad 144)), none] [] z
  refine hB.aload_n d_Lw_figure_0 rfl ?_
  refine hB.iconst d_Lw_figure_1 (v := 0) rfl ?_
  refine hB.aload_n d_Lw_figure_2 rfl ?_
  refine hB.iload_n d_Lw_figure_3 rfl ?_
  refine hB.callV lk_Lw_34 cd_Pw_figure hM rfl (by decide) sK_0 d_Lw_figure_4 rfl rfl ⟨by show n9 + 1 ≤ 7; omega, by show 8 + (2 + 11) + 32 * n9 ≤ 224; omega⟩ (by simp [Value.category]) ?_
  rintro _ w1 ⟨rfl, hw1⟩
  refine hB.i2l d_Lw_figure_7 rfl ?_
  refine hB.last d_Lw_figure_8 ?_
  refine hB.goto d_Lw_figure_9 (tgt := 15) rfl ?_
  refine hB.iconst d_Lw_figure_15 (v := 0) rfl ?_
  exact hE.1 _ _ _ _ _ d_Lw_figure_16 rfl rfl ⟨rfl, w1, hw1, rfl⟩
set_option maxRecDepth 100000 in
theorem h_figure_x1 (l : Launch) (g : mG) (ad : Nat → Nat) (z : sT) (x1 : Int32) {P : sT → Prop} (hX : xC l y_Pw_figure c_Pw_figure 2 (some .int) 6 g ad [.ref (ad 0), .int x1] z X_IAE P) : hS l y_Lw_figure c_Lw_figure 4 (some .int) hh_figure 7 g ad [.ref (ad 0), .int x1, .ref (ad 144)] z (fun r w => r = some (.int 1) ∧ P w) := by
  refine hS.intro (own := R_Lw) rfl (by decide) (by simp [Value.category]) (Nat.le_of_ble_eq_true rfl) (fun K0 K1 hB hB1 hE hE1 hT9 => ?_)
  show K0 0 [some (.ref (ad 0)), some (.int x1), some (.ref (ad 144)), none] [] z
  refine hB.aload_n d_Lw_figure_0 rfl ?_
  refine hB.iconst d_Lw_figure_1 (v := 0) rfl ?_
  refine hB.aload_n d_Lw_figure_2 rfl ?_
  refine hB.iload_n d_Lw_figure_3 rfl ?_
  refine hT9.callX lk_Lw_34 cd_Pw_figure hX rfl (by decide) sK_0 d_Lw_figure_4 rfl rfl (by decide) (by simp [Value.category]) (pre := []) rfl (by decide) (by decide) xl_13 (by decide) (fun q hq => by cases hq) ?_
  intro a w hw
  refine hB1.astore_n d_Lw_figure_12 (Nat.le_of_ble_eq_true rfl) ?_
  refine hB1.iconst d_Lw_figure_13 (v := 1) rfl ?_
  exact hE1.1 _ _ _ _ _ d_Lw_figure_14 rfl rfl ⟨rfl, hw⟩
