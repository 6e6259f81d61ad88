-- PRINTED by wip/whole/gen.py: the methods code words and what belongs to a method
set_option maxRecDepth 100000 in
theorem cw_0 : Cond.code (pg_name 0) (pg_bytes 0) (pg_max 0) (pg_ret 0) ∈ pg_ws := ck_mem.ok (i := 63) (by decide +kernel)
theorem cm_0 : (pg_tab 0 = [] → Cond.code (pg_name 0) (pg_bytes 0) (pg_max 0) (pg_ret 0) ∈ pg_ws) ∧ am_okM am_NM 0 := ⟨fun _ => cw_0, by unfold am_NM; decide, ⟨Or.inl ⟨rfl, cw_0⟩, by decide +kernel, by decide +kernel, by decide +kernel⟩, by decide +kernel⟩
set_option maxRecDepth 100000 in
theorem cw_1 : Cond.code (pg_name 1) (pg_bytes 1) (pg_max 1) (pg_ret 1) ∈ pg_ws := ck_mem.ok (i := 71) (by decide +kernel)
theorem cm_1 : (pg_tab 1 = [] → Cond.code (pg_name 1) (pg_bytes 1) (pg_max 1) (pg_ret 1) ∈ pg_ws) ∧ am_okM am_NM 1 := ⟨fun _ => cw_1, by unfold am_NM; decide, ⟨Or.inl ⟨rfl, cw_1⟩, by decide +kernel, by decide +kernel, by decide +kernel⟩, by decide +kernel⟩
set_option maxRecDepth 100000 in
theorem cw_2 : Cond.code (pg_name 2) (pg_bytes 2) (pg_max 2) (pg_ret 2) ∈ pg_ws := ck_mem.ok (i := 106) (by decide +kernel)
theorem cm_2 : (pg_tab 2 = [] → Cond.code (pg_name 2) (pg_bytes 2) (pg_max 2) (pg_ret 2) ∈ pg_ws) ∧ am_okM am_NM 2 := ⟨fun _ => cw_2, by unfold am_NM; decide, ⟨Or.inl ⟨rfl, cw_2⟩, by decide +kernel, by decide +kernel, by decide +kernel⟩, by decide +kernel⟩
set_option maxRecDepth 100000 in
theorem cw_3 : Cond.code (pg_name 3) (pg_bytes 3) (pg_max 3) (pg_ret 3) ∈ pg_ws := ck_mem.ok (i := 153) (by decide +kernel)
theorem cm_3 : (pg_tab 3 = [] → Cond.code (pg_name 3) (pg_bytes 3) (pg_max 3) (pg_ret 3) ∈ pg_ws) ∧ am_okM am_NM 3 := ⟨fun _ => cw_3, by unfold am_NM; decide, ⟨Or.inl ⟨rfl, cw_3⟩, by decide +kernel, by decide +kernel, by decide +kernel⟩, by decide +kernel⟩
set_option maxRecDepth 100000 in
theorem cw_4 : Cond.code (pg_name 4) (pg_bytes 4) (pg_max 4) (pg_ret 4) ∈ pg_ws := ck_mem.ok (i := 175) (by decide +kernel)
theorem cm_4 : (pg_tab 4 = [] → Cond.code (pg_name 4) (pg_bytes 4) (pg_max 4) (pg_ret 4) ∈ pg_ws) ∧ am_okM am_NM 4 := ⟨fun _ => cw_4, by unfold am_NM; decide, ⟨Or.inl ⟨rfl, cw_4⟩, by decide +kernel, by decide +kernel, by decide +kernel⟩, by decide +kernel⟩
set_option maxRecDepth 100000 in
theorem cw_5 : Cond.code (pg_name 5) (pg_bytes 5) (pg_max 5) (pg_ret 5) ∈ pg_ws := ck_mem.ok (i := 181) (by decide +kernel)
theorem cm_5 : (pg_tab 5 = [] → Cond.code (pg_name 5) (pg_bytes 5) (pg_max 5) (pg_ret 5) ∈ pg_ws) ∧ am_okM am_NM 5 := ⟨fun _ => cw_5, by unfold am_NM; decide, ⟨Or.inl ⟨rfl, cw_5⟩, by decide +kernel, by decide +kernel, by decide +kernel⟩, by decide +kernel⟩
set_option maxRecDepth 100000 in
theorem cw_6 : Cond.code (pg_name 6) (pg_bytes 6) (pg_max 6) (pg_ret 6) ∈ pg_ws := ck_mem.ok (i := 238) (by decide +kernel)
theorem cm_6 : (pg_tab 6 = [] → Cond.code (pg_name 6) (pg_bytes 6) (pg_max 6) (pg_ret 6) ∈ pg_ws) ∧ am_okM am_NM 6 := ⟨fun _ => cw_6, by unfold am_NM; decide, ⟨Or.inl ⟨rfl, cw_6⟩, by decide +kernel, by decide +kernel, by decide +kernel⟩, by decide +kernel⟩
set_option maxRecDepth 100000 in
theorem cw_7 : Cond.code (pg_name 7) (pg_bytes 7) (pg_max 7) (pg_ret 7) ∈ pg_ws := ck_mem.ok (i := 278) (by decide +kernel)
theorem cm_7 : (pg_tab 7 = [] → Cond.code (pg_name 7) (pg_bytes 7) (pg_max 7) (pg_ret 7) ∈ pg_ws) ∧ am_okM am_NM 7 := ⟨fun _ => cw_7, by unfold am_NM; decide, ⟨Or.inl ⟨rfl, cw_7⟩, by decide +kernel, by decide +kernel, by decide +kernel⟩, by decide +kernel⟩
set_option maxRecDepth 100000 in
theorem cw_8 : Cond.code (pg_name 8) (pg_bytes 8) (pg_max 8) (pg_ret 8) ∈ pg_ws := ck_mem.ok (i := 282) (by decide +kernel)
theorem cm_8 : (pg_tab 8 = [] → Cond.code (pg_name 8) (pg_bytes 8) (pg_max 8) (pg_ret 8) ∈ pg_ws) ∧ am_okM am_NM 8 := ⟨fun _ => cw_8, by unfold am_NM; decide, ⟨Or.inl ⟨rfl, cw_8⟩, by decide +kernel, by decide +kernel, by decide +kernel⟩, by decide +kernel⟩
set_option maxRecDepth 100000 in
theorem cw_9 : Cond.code (pg_name 9) (pg_bytes 9) (pg_max 9) (pg_ret 9) ∈ pg_ws := ck_mem.ok (i := 286) (by decide +kernel)
theorem cm_9 : (pg_tab 9 = [] → Cond.code (pg_name 9) (pg_bytes 9) (pg_max 9) (pg_ret 9) ∈ pg_ws) ∧ am_okM am_NM 9 := ⟨fun _ => cw_9, by unfold am_NM; decide, ⟨Or.inl ⟨rfl, cw_9⟩, by decide +kernel, by decide +kernel, by decide +kernel⟩, by decide +kernel⟩
set_option maxRecDepth 100000 in
theorem cw_10 : Cond.code (pg_name 10) (pg_bytes 10) (pg_max 10) (pg_ret 10) ∈ pg_ws := ck_mem.ok (i := 293) (by decide +kernel)
theorem cm_10 : (pg_tab 10 = [] → Cond.code (pg_name 10) (pg_bytes 10) (pg_max 10) (pg_ret 10) ∈ pg_ws) ∧ am_okM am_NM 10 := ⟨fun _ => cw_10, by unfold am_NM; decide, ⟨Or.inl ⟨rfl, cw_10⟩, by decide +kernel, by decide +kernel, by decide +kernel⟩, by decide +kernel⟩
set_option maxRecDepth 100000 in
theorem cw_11 : Cond.code (pg_name 11) (pg_bytes 11) (pg_max 11) (pg_ret 11) ∈ pg_ws := ck_mem.ok (i := 298) (by decide +kernel)
theorem cm_11 : (pg_tab 11 = [] → Cond.code (pg_name 11) (pg_bytes 11) (pg_max 11) (pg_ret 11) ∈ pg_ws) ∧ am_okM am_NM 11 := ⟨fun _ => cw_11, by unfold am_NM; decide, ⟨Or.inl ⟨rfl, cw_11⟩, by decide +kernel, by decide +kernel, by decide +kernel⟩, by decide +kernel⟩
set_option maxRecDepth 100000 in
theorem cw_12 : Cond.code (pg_name 12) (pg_bytes 12) (pg_max 12) (pg_ret 12) ∈ pg_ws := ck_mem.ok (i := 302) (by decide +kernel)
theorem cm_12 : (pg_tab 12 = [] → Cond.code (pg_name 12) (pg_bytes 12) (pg_max 12) (pg_ret 12) ∈ pg_ws) ∧ am_okM am_NM 12 := ⟨fun _ => cw_12, by unfold am_NM; decide, ⟨Or.inl ⟨rfl, cw_12⟩, by decide +kernel, by decide +kernel, by decide +kernel⟩, by decide +kernel⟩
set_option maxRecDepth 100000 in
theorem cw_13 : Cond.code (pg_name 13) (pg_bytes 13) (pg_max 13) (pg_ret 13) ∈ pg_ws := ck_mem.ok (i := 307) (by decide +kernel)
theorem cm_13 : (pg_tab 13 = [] → Cond.code (pg_name 13) (pg_bytes 13) (pg_max 13) (pg_ret 13) ∈ pg_ws) ∧ am_okM am_NM 13 := ⟨fun _ => cw_13, by unfold am_NM; decide, ⟨Or.inl ⟨rfl, cw_13⟩, by decide +kernel, by decide +kernel, by decide +kernel⟩, by decide +kernel⟩
set_option maxRecDepth 100000 in
theorem cw_14 : Cond.code (pg_name 14) (pg_bytes 14) (pg_max 14) (pg_ret 14) ∈ pg_ws := ck_mem.ok (i := 311) (by decide +kernel)
theorem cm_14 : (pg_tab 14 = [] → Cond.code (pg_name 14) (pg_bytes 14) (pg_max 14) (pg_ret 14) ∈ pg_ws) ∧ am_okM am_NM 14 := ⟨fun _ => cw_14, by unfold am_NM; decide, ⟨Or.inl ⟨rfl, cw_14⟩, by decide +kernel, by decide +kernel, by decide +kernel⟩, by decide +kernel⟩
set_option maxRecDepth 100000 in
theorem cw_15 : Cond.code (pg_name 15) (pg_bytes 15) (pg_max 15) (pg_ret 15) ∈ pg_ws := ck_mem.ok (i := 315) (by decide +kernel)
theorem cm_15 : (pg_tab 15 = [] → Cond.code (pg_name 15) (pg_bytes 15) (pg_max 15) (pg_ret 15) ∈ pg_ws) ∧ am_okM am_NM 15 := ⟨fun _ => cw_15, by unfold am_NM; decide, ⟨Or.inl ⟨rfl, cw_15⟩, by decide +kernel, by decide +kernel, by decide +kernel⟩, by decide +kernel⟩
set_option maxRecDepth 100000 in
theorem cw_16 : Cond.code (pg_name 16) (pg_bytes 16) (pg_max 16) (pg_ret 16) ∈ pg_ws := ck_mem.ok (i := 319) (by decide +kernel)
theorem cm_16 : (pg_tab 16 = [] → Cond.code (pg_name 16) (pg_bytes 16) (pg_max 16) (pg_ret 16) ∈ pg_ws) ∧ am_okM am_NM 16 := ⟨fun _ => cw_16, by unfold am_NM; decide, ⟨Or.inl ⟨rfl, cw_16⟩, by decide +kernel, by decide +kernel, by decide +kernel⟩, by decide +kernel⟩
set_option maxRecDepth 100000 in
theorem cw_17 : Cond.code (pg_name 17) (pg_bytes 17) (pg_max 17) (pg_ret 17) ∈ pg_ws := ck_mem.ok (i := 323) (by decide +kernel)
theorem cm_17 : (pg_tab 17 = [] → Cond.code (pg_name 17) (pg_bytes 17) (pg_max 17) (pg_ret 17) ∈ pg_ws) ∧ am_okM am_NM 17 := ⟨fun _ => cw_17, by unfold am_NM; decide, ⟨Or.inl ⟨rfl, cw_17⟩, by decide +kernel, by decide +kernel, by decide +kernel⟩, by decide +kernel⟩
set_option maxRecDepth 100000 in
theorem cw_18 : Cond.code (pg_name 18) (pg_bytes 18) (pg_max 18) (pg_ret 18) ∈ pg_ws := ck_mem.ok (i := 327) (by decide +kernel)
theorem cm_18 : (pg_tab 18 = [] → Cond.code (pg_name 18) (pg_bytes 18) (pg_max 18) (pg_ret 18) ∈ pg_ws) ∧ am_okM am_NM 18 := ⟨fun _ => cw_18, by unfold am_NM; decide, ⟨Or.inl ⟨rfl, cw_18⟩, by decide +kernel, by decide +kernel, by decide +kernel⟩, by decide +kernel⟩
set_option maxRecDepth 100000 in
theorem cw_19 : Cond.code (pg_name 19) (pg_bytes 19) (pg_max 19) (pg_ret 19) ∈ pg_ws := ck_mem.ok (i := 331) (by decide +kernel)
theorem cm_19 : (pg_tab 19 = [] → Cond.code (pg_name 19) (pg_bytes 19) (pg_max 19) (pg_ret 19) ∈ pg_ws) ∧ am_okM am_NM 19 := ⟨fun _ => cw_19, by unfold am_NM; decide, ⟨Or.inl ⟨rfl, cw_19⟩, by decide +kernel, by decide +kernel, by decide +kernel⟩, by decide +kernel⟩
set_option maxRecDepth 100000 in
theorem cw_20 : Cond.code (pg_name 20) (pg_bytes 20) (pg_max 20) (pg_ret 20) ∈ pg_ws := ck_mem.ok (i := 341) (by decide +kernel)
theorem cm_20 : (pg_tab 20 = [] → Cond.code (pg_name 20) (pg_bytes 20) (pg_max 20) (pg_ret 20) ∈ pg_ws) ∧ am_okM am_NM 20 := ⟨fun _ => cw_20, by unfold am_NM; decide, ⟨Or.inl ⟨rfl, cw_20⟩, by decide +kernel, by decide +kernel, by decide +kernel⟩, by decide +kernel⟩
set_option maxRecDepth 100000 in
theorem cw_21 : Cond.code (pg_name 21) (pg_bytes 21) (pg_max 21) (pg_ret 21) ∈ pg_ws := ck_mem.ok (i := 345) (by decide +kernel)
theorem cm_21 : (pg_tab 21 = [] → Cond.code (pg_name 21) (pg_bytes 21) (pg_max 21) (pg_ret 21) ∈ pg_ws) ∧ am_okM am_NM 21 := ⟨fun _ => cw_21, by unfold am_NM; decide, ⟨Or.inl ⟨rfl, cw_21⟩, by decide +kernel, by decide +kernel, by decide +kernel⟩, by decide +kernel⟩
set_option maxRecDepth 100000 in
theorem cw_22 : Cond.code (pg_name 22) (pg_bytes 22) (pg_max 22) (pg_ret 22) ∈ pg_ws := ck_mem.ok (i := 349) (by decide +kernel)
theorem cm_22 : (pg_tab 22 = [] → Cond.code (pg_name 22) (pg_bytes 22) (pg_max 22) (pg_ret 22) ∈ pg_ws) ∧ am_okM am_NM 22 := ⟨fun _ => cw_22, by unfold am_NM; decide, ⟨Or.inl ⟨rfl, cw_22⟩, by decide +kernel, by decide +kernel, by decide +kernel⟩, by decide +kernel⟩
set_option maxRecDepth 100000 in
theorem cw_23 : Cond.code (pg_name 23) (pg_bytes 23) (pg_max 23) (pg_ret 23) ∈ pg_ws := ck_mem.ok (i := 353) (by decide +kernel)
theorem cm_23 : (pg_tab 23 = [] → Cond.code (pg_name 23) (pg_bytes 23) (pg_max 23) (pg_ret 23) ∈ pg_ws) ∧ am_okM am_NM 23 := ⟨fun _ => cw_23, by unfold am_NM; decide, ⟨Or.inl ⟨rfl, cw_23⟩, by decide +kernel, by decide +kernel, by decide +kernel⟩, by decide +kernel⟩
set_option maxRecDepth 100000 in
theorem cw_24 : Cond.code (pg_name 24) (pg_bytes 24) (pg_max 24) (pg_ret 24) ∈ pg_ws := ck_mem.ok (i := 357) (by decide +kernel)
theorem cm_24 : (pg_tab 24 = [] → Cond.code (pg_name 24) (pg_bytes 24) (pg_max 24) (pg_ret 24) ∈ pg_ws) ∧ am_okM am_NM 24 := ⟨fun _ => cw_24, by unfold am_NM; decide, ⟨Or.inl ⟨rfl, cw_24⟩, by decide +kernel, by decide +kernel, by decide +kernel⟩, by decide +kernel⟩
set_option maxRecDepth 100000 in
theorem cw_25 : Cond.code (pg_name 25) (pg_bytes 25) (pg_max 25) (pg_ret 25) ∈ pg_ws := ck_mem.ok (i := 361) (by decide +kernel)
theorem cm_25 : (pg_tab 25 = [] → Cond.code (pg_name 25) (pg_bytes 25) (pg_max 25) (pg_ret 25) ∈ pg_ws) ∧ am_okM am_NM 25 := ⟨fun _ => cw_25, by unfold am_NM; decide, ⟨Or.inl ⟨rfl, cw_25⟩, by decide +kernel, by decide +kernel, by decide +kernel⟩, by decide +kernel⟩
set_option maxRecDepth 100000 in
theorem cw_26 : Cond.code (pg_name 26) (pg_bytes 26) (pg_max 26) (pg_ret 26) ∈ pg_ws := ck_mem.ok (i := 365) (by decide +kernel)
theorem cm_26 : (pg_tab 26 = [] → Cond.code (pg_name 26) (pg_bytes 26) (pg_max 26) (pg_ret 26) ∈ pg_ws) ∧ am_okM am_NM 26 := ⟨fun _ => cw_26, by unfold am_NM; decide, ⟨Or.inl ⟨rfl, cw_26⟩, by decide +kernel, by decide +kernel, by decide +kernel⟩, by decide +kernel⟩
set_option maxRecDepth 100000 in
theorem cw_27 : Cond.code (pg_name 27) (pg_bytes 27) (pg_max 27) (pg_ret 27) ∈ pg_ws := ck_mem.ok (i := 369) (by decide +kernel)
theorem cm_27 : (pg_tab 27 = [] → Cond.code (pg_name 27) (pg_bytes 27) (pg_max 27) (pg_ret 27) ∈ pg_ws) ∧ am_okM am_NM 27 := ⟨fun _ => cw_27, by unfold am_NM; decide, ⟨Or.inl ⟨rfl, cw_27⟩, by decide +kernel, by decide +kernel, by decide +kernel⟩, by decide +kernel⟩
set_option maxRecDepth 100000 in
theorem cw_28 : Cond.code (pg_name 28) (pg_bytes 28) (pg_max 28) (pg_ret 28) ∈ pg_ws := ck_mem.ok (i := 373) (by decide +kernel)
theorem cm_28 : (pg_tab 28 = [] → Cond.code (pg_name 28) (pg_bytes 28) (pg_max 28) (pg_ret 28) ∈ pg_ws) ∧ am_okM am_NM 28 := ⟨fun _ => cw_28, by unfold am_NM; decide, ⟨Or.inl ⟨rfl, cw_28⟩, by decide +kernel, by decide +kernel, by decide +kernel⟩, by decide +kernel⟩
set_option maxRecDepth 100000 in
theorem cw_29 : Cond.code (pg_name 29) (pg_bytes 29) (pg_max 29) (pg_ret 29) ∈ pg_ws := ck_mem.ok (i := 377) (by decide +kernel)
theorem cm_29 : (pg_tab 29 = [] → Cond.code (pg_name 29) (pg_bytes 29) (pg_max 29) (pg_ret 29) ∈ pg_ws) ∧ am_okM am_NM 29 := ⟨fun _ => cw_29, by unfold am_NM; decide, ⟨Or.inl ⟨rfl, cw_29⟩, by decide +kernel, by decide +kernel, by decide +kernel⟩, by decide +kernel⟩
set_option maxRecDepth 100000 in
theorem cw_30 : Cond.code (pg_name 30) (pg_bytes 30) (pg_max 30) (pg_ret 30) ∈ pg_ws := ck_mem.ok (i := 380) (by decide +kernel)
theorem cm_30 : (pg_tab 30 = [] → Cond.code (pg_name 30) (pg_bytes 30) (pg_max 30) (pg_ret 30) ∈ pg_ws) ∧ am_okM am_NM 30 := ⟨fun _ => cw_30, by unfold am_NM; decide, ⟨Or.inl ⟨rfl, cw_30⟩, by decide +kernel, by decide +kernel, by decide +kernel⟩, by decide +kernel⟩
set_option maxRecDepth 100000 in
theorem cw_31 : Cond.code (pg_name 31) (pg_bytes 31) (pg_max 31) (pg_ret 31) ∈ pg_ws := ck_mem.ok (i := 387) (by decide +kernel)
theorem cm_31 : (pg_tab 31 = [] → Cond.code (pg_name 31) (pg_bytes 31) (pg_max 31) (pg_ret 31) ∈ pg_ws) ∧ am_okM am_NM 31 := ⟨fun _ => cw_31, by unfold am_NM; decide, ⟨Or.inl ⟨rfl, cw_31⟩, by decide +kernel, by decide +kernel, by decide +kernel⟩, by decide +kernel⟩
set_option maxRecDepth 100000 in
theorem cw_32 : Cond.code (pg_name 32) (pg_bytes 32) (pg_max 32) (pg_ret 32) ∈ pg_ws := ck_mem.ok (i := 391) (by decide +kernel)
theorem cm_32 : (pg_tab 32 = [] → Cond.code (pg_name 32) (pg_bytes 32) (pg_max 32) (pg_ret 32) ∈ pg_ws) ∧ am_okM am_NM 32 := ⟨fun _ => cw_32, by unfold am_NM; decide, ⟨Or.inl ⟨rfl, cw_32⟩, by decide +kernel, by decide +kernel, by decide +kernel⟩, by decide +kernel⟩
set_option maxRecDepth 100000 in
theorem cw_33 : Cond.code (pg_name 33) (pg_bytes 33) (pg_max 33) (pg_ret 33) ∈ pg_ws := ck_mem.ok (i := 395) (by decide +kernel)
theorem cm_33 : (pg_tab 33 = [] → Cond.code (pg_name 33) (pg_bytes 33) (pg_max 33) (pg_ret 33) ∈ pg_ws) ∧ am_okM am_NM 33 := ⟨fun _ => cw_33, by unfold am_NM; decide, ⟨Or.inl ⟨rfl, cw_33⟩, by decide +kernel, by decide +kernel, by decide +kernel⟩, by decide +kernel⟩
set_option maxRecDepth 100000 in
theorem cw_34 : Cond.code (pg_name 34) (pg_bytes 34) (pg_max 34) (pg_ret 34) ∈ pg_ws := ck_mem.ok (i := 399) (by decide +kernel)
theorem cm_34 : (pg_tab 34 = [] → Cond.code (pg_name 34) (pg_bytes 34) (pg_max 34) (pg_ret 34) ∈ pg_ws) ∧ am_okM am_NM 34 := ⟨fun _ => cw_34, by unfold am_NM; decide, ⟨Or.inl ⟨rfl, cw_34⟩, by decide +kernel, by decide +kernel, by decide +kernel⟩, by decide +kernel⟩
set_option maxRecDepth 100000 in
theorem cw_35 : Cond.code (pg_name 35) (pg_bytes 35) (pg_max 35) (pg_ret 35) ∈ pg_ws := ck_mem.ok (i := 403) (by decide +kernel)
theorem cm_35 : (pg_tab 35 = [] → Cond.code (pg_name 35) (pg_bytes 35) (pg_max 35) (pg_ret 35) ∈ pg_ws) ∧ am_okM am_NM 35 := ⟨fun _ => cw_35, by unfold am_NM; decide, ⟨Or.inl ⟨rfl, cw_35⟩, by decide +kernel, by decide +kernel, by decide +kernel⟩, by decide +kernel⟩
set_option maxRecDepth 100000 in
theorem cw_36 : Cond.code (pg_name 36) (pg_bytes 36) (pg_max 36) (pg_ret 36) ∈ pg_ws := ck_mem.ok (i := 407) (by decide +kernel)
theorem cm_36 : (pg_tab 36 = [] → Cond.code (pg_name 36) (pg_bytes 36) (pg_max 36) (pg_ret 36) ∈ pg_ws) ∧ am_okM am_NM 36 := ⟨fun _ => cw_36, by unfold am_NM; decide, ⟨Or.inl ⟨rfl, cw_36⟩, by decide +kernel, by decide +kernel, by decide +kernel⟩, by decide +kernel⟩
set_option maxRecDepth 100000 in
theorem cw_37 : Cond.codeWith (pg_name 37) (pg_bytes 37) (pg_max 37) (pg_ret 37) ((pg_tab 37).map fun q => (q.1, q.2.1, q.2.2.1, q.2.2.2.1)) ∈ pg_ws := ck_mem.ok (i := 410) (by decide +kernel)
theorem cm_37 : (pg_tab 37 = [] → Cond.code (pg_name 37) (pg_bytes 37) (pg_max 37) (pg_ret 37) ∈ pg_ws) ∧ am_okM am_NM 37 := ⟨fun h => absurd h (by decide +kernel), by unfold am_NM; decide, ⟨Or.inr cw_37, by decide +kernel, by decide +kernel, by decide +kernel⟩, by decide +kernel⟩
set_option maxRecDepth 100000 in
theorem cw_38 : Cond.code (pg_name 38) (pg_bytes 38) (pg_max 38) (pg_ret 38) ∈ pg_ws := ck_mem.ok (i := 415) (by decide +kernel)
theorem cm_38 : (pg_tab 38 = [] → Cond.code (pg_name 38) (pg_bytes 38) (pg_max 38) (pg_ret 38) ∈ pg_ws) ∧ am_okM am_NM 38 := ⟨fun _ => cw_38, by unfold am_NM; decide, ⟨Or.inl ⟨rfl, cw_38⟩, by decide +kernel, by decide +kernel, by decide +kernel⟩, by decide +kernel⟩
set_option maxRecDepth 100000 in
theorem cw_39 : Cond.code (pg_name 39) (pg_bytes 39) (pg_max 39) (pg_ret 39) ∈ pg_ws := ck_mem.ok (i := 488) (by decide +kernel)
theorem cm_39 : (pg_tab 39 = [] → Cond.code (pg_name 39) (pg_bytes 39) (pg_max 39) (pg_ret 39) ∈ pg_ws) ∧ am_okM am_NM 39 := ⟨fun _ => cw_39, by unfold am_NM; decide, ⟨Or.inl ⟨rfl, cw_39⟩, by decide +kernel, by decide +kernel, by decide +kernel⟩, by decide +kernel⟩
set_option maxRecDepth 100000 in
theorem cw_40 : Cond.code (pg_name 40) (pg_bytes 40) (pg_max 40) (pg_ret 40) ∈ pg_ws := ck_mem.ok (i := 492) (by decide +kernel)
theorem cm_40 : (pg_tab 40 = [] → Cond.code (pg_name 40) (pg_bytes 40) (pg_max 40) (pg_ret 40) ∈ pg_ws) ∧ am_okM am_NM 40 := ⟨fun _ => cw_40, by unfold am_NM; decide, ⟨Or.inl ⟨rfl, cw_40⟩, by decide +kernel, by decide +kernel, by decide +kernel⟩, by decide +kernel⟩
set_option maxRecDepth 100000 in
theorem cw_41 : Cond.codeWith (pg_name 41) (pg_bytes 41) (pg_max 41) (pg_ret 41) ((pg_tab 41).map fun q => (q.1, q.2.1, q.2.2.1, q.2.2.2.1)) ∈ pg_ws := ck_mem.ok (i := 495) (by decide +kernel)
theorem cm_41 : (pg_tab 41 = [] → Cond.code (pg_name 41) (pg_bytes 41) (pg_max 41) (pg_ret 41) ∈ pg_ws) ∧ am_okM am_NM 41 := ⟨fun h => absurd h (by decide +kernel), by unfold am_NM; decide, ⟨Or.inr cw_41, by decide +kernel, by decide +kernel, by decide +kernel⟩, by decide +kernel⟩
set_option maxRecDepth 100000 in
theorem cw_42 : Cond.code (pg_name 42) (pg_bytes 42) (pg_max 42) (pg_ret 42) ∈ pg_ws := ck_mem.ok (i := 500) (by decide +kernel)
theorem cm_42 : (pg_tab 42 = [] → Cond.code (pg_name 42) (pg_bytes 42) (pg_max 42) (pg_ret 42) ∈ pg_ws) ∧ am_okM am_NM 42 := ⟨fun _ => cw_42, by unfold am_NM; decide, ⟨Or.inl ⟨rfl, cw_42⟩, by decide +kernel, by decide +kernel, by decide +kernel⟩, by decide +kernel⟩
set_option maxRecDepth 100000 in
theorem cw_43 : Cond.code (pg_name 43) (pg_bytes 43) (pg_max 43) (pg_ret 43) ∈ pg_ws := ck_mem.ok (i := 504) (by decide +kernel)
theorem cm_43 : (pg_tab 43 = [] → Cond.code (pg_name 43) (pg_bytes 43) (pg_max 43) (pg_ret 43) ∈ pg_ws) ∧ am_okM am_NM 43 := ⟨fun _ => cw_43, by unfold am_NM; decide, ⟨Or.inl ⟨rfl, cw_43⟩, by decide +kernel, by decide +kernel, by decide +kernel⟩, by decide +kernel⟩
set_option maxRecDepth 100000 in
theorem cw_44 : Cond.code (pg_name 44) (pg_bytes 44) (pg_max 44) (pg_ret 44) ∈ pg_ws := ck_mem.ok (i := 508) (by decide +kernel)
theorem cm_44 : (pg_tab 44 = [] → Cond.code (pg_name 44) (pg_bytes 44) (pg_max 44) (pg_ret 44) ∈ pg_ws) ∧ am_okM am_NM 44 := ⟨fun _ => cw_44, by unfold am_NM; decide, ⟨Or.inl ⟨rfl, cw_44⟩, by decide +kernel, by decide +kernel, by decide +kernel⟩, by decide +kernel⟩
set_option maxRecDepth 100000 in
theorem cw_45 : Cond.code (pg_name 45) (pg_bytes 45) (pg_max 45) (pg_ret 45) ∈ pg_ws := ck_mem.ok (i := 529) (by decide +kernel)
theorem cm_45 : (pg_tab 45 = [] → Cond.code (pg_name 45) (pg_bytes 45) (pg_max 45) (pg_ret 45) ∈ pg_ws) ∧ am_okM am_NM 45 := ⟨fun _ => cw_45, by unfold am_NM; decide, ⟨Or.inl ⟨rfl, cw_45⟩, by decide +kernel, by decide +kernel, by decide +kernel⟩, by decide +kernel⟩
set_option maxRecDepth 100000 in
theorem cw_46 : Cond.codeWith (pg_name 46) (pg_bytes 46) (pg_max 46) (pg_ret 46) ((pg_tab 46).map fun q => (q.1, q.2.1, q.2.2.1, q.2.2.2.1)) ∈ pg_ws := ck_mem.ok (i := 533) (by decide +kernel)
theorem cm_46 : (pg_tab 46 = [] → Cond.code (pg_name 46) (pg_bytes 46) (pg_max 46) (pg_ret 46) ∈ pg_ws) ∧ am_okM am_NM 46 := ⟨fun h => absurd h (by decide +kernel), by unfold am_NM; decide, ⟨Or.inr cw_46, by decide +kernel, by decide +kernel, by decide +kernel⟩, by decide +kernel⟩
set_option maxRecDepth 100000 in
theorem cw_47 : Cond.code (pg_name 47) (pg_bytes 47) (pg_max 47) (pg_ret 47) ∈ pg_ws := ck_mem.ok (i := 538) (by decide +kernel)
theorem cm_47 : (pg_tab 47 = [] → Cond.code (pg_name 47) (pg_bytes 47) (pg_max 47) (pg_ret 47) ∈ pg_ws) ∧ am_okM am_NM 47 := ⟨fun _ => cw_47, by unfold am_NM; decide, ⟨Or.inl ⟨rfl, cw_47⟩, by decide +kernel, by decide +kernel, by decide +kernel⟩, by decide +kernel⟩
set_option maxRecDepth 100000 in
theorem cw_48 : Cond.codeWith (pg_name 48) (pg_bytes 48) (pg_max 48) (pg_ret 48) ((pg_tab 48).map fun q => (q.1, q.2.1, q.2.2.1, q.2.2.2.1)) ∈ pg_ws := ck_mem.ok (i := 557) (by decide +kernel)
theorem cm_48 : (pg_tab 48 = [] → Cond.code (pg_name 48) (pg_bytes 48) (pg_max 48) (pg_ret 48) ∈ pg_ws) ∧ am_okM am_NM 48 := ⟨fun h => absurd h (by decide +kernel), by unfold am_NM; decide, ⟨Or.inr cw_48, by decide +kernel, by decide +kernel, by decide +kernel⟩, by decide +kernel⟩
set_option maxRecDepth 100000 in
theorem cw_49 : Cond.code (pg_name 49) (pg_bytes 49) (pg_max 49) (pg_ret 49) ∈ pg_ws := ck_mem.ok (i := 561) (by decide +kernel)
theorem cm_49 : (pg_tab 49 = [] → Cond.code (pg_name 49) (pg_bytes 49) (pg_max 49) (pg_ret 49) ∈ pg_ws) ∧ am_okM am_NM 49 := ⟨fun _ => cw_49, by unfold am_NM; decide, ⟨Or.inl ⟨rfl, cw_49⟩, by decide +kernel, by decide +kernel, by decide +kernel⟩, by decide +kernel⟩
set_option maxRecDepth 100000 in
theorem cw_50 : Cond.code (pg_name 50) (pg_bytes 50) (pg_max 50) (pg_ret 50) ∈ pg_ws := ck_mem.ok (i := 565) (by decide +kernel)
theorem cm_50 : (pg_tab 50 = [] → Cond.code (pg_name 50) (pg_bytes 50) (pg_max 50) (pg_ret 50) ∈ pg_ws) ∧ am_okM am_NM 50 := ⟨fun _ => cw_50, by unfold am_NM; decide, ⟨Or.inl ⟨rfl, cw_50⟩, by decide +kernel, by decide +kernel, by decide +kernel⟩, by decide +kernel⟩
set_option maxRecDepth 100000 in
theorem cw_51 : Cond.codeWith (pg_name 51) (pg_bytes 51) (pg_max 51) (pg_ret 51) ((pg_tab 51).map fun q => (q.1, q.2.1, q.2.2.1, q.2.2.2.1)) ∈ pg_ws := ck_mem.ok (i := 571) (by decide +kernel)
theorem cm_51 : (pg_tab 51 = [] → Cond.code (pg_name 51) (pg_bytes 51) (pg_max 51) (pg_ret 51) ∈ pg_ws) ∧ am_okM am_NM 51 := ⟨fun h => absurd h (by decide +kernel), by unfold am_NM; decide, ⟨Or.inr cw_51, by decide +kernel, by decide +kernel, by decide +kernel⟩, by decide +kernel⟩
set_option maxRecDepth 100000 in
theorem cw_52 : Cond.code (pg_name 52) (pg_bytes 52) (pg_max 52) (pg_ret 52) ∈ pg_ws := ck_mem.ok (i := 575) (by decide +kernel)
theorem cm_52 : (pg_tab 52 = [] → Cond.code (pg_name 52) (pg_bytes 52) (pg_max 52) (pg_ret 52) ∈ pg_ws) ∧ am_okM am_NM 52 := ⟨fun _ => cw_52, by unfold am_NM; decide, ⟨Or.inl ⟨rfl, cw_52⟩, by decide +kernel, by decide +kernel, by decide +kernel⟩, by decide +kernel⟩
set_option maxRecDepth 100000 in
theorem cw_53 : Cond.codeWith (pg_name 53) (pg_bytes 53) (pg_max 53) (pg_ret 53) ((pg_tab 53).map fun q => (q.1, q.2.1, q.2.2.1, q.2.2.2.1)) ∈ pg_ws := ck_mem.ok (i := 578) (by decide +kernel)
theorem cm_53 : (pg_tab 53 = [] → Cond.code (pg_name 53) (pg_bytes 53) (pg_max 53) (pg_ret 53) ∈ pg_ws) ∧ am_okM am_NM 53 := ⟨fun h => absurd h (by decide +kernel), by unfold am_NM; decide, ⟨Or.inr cw_53, by decide +kernel, by decide +kernel, by decide +kernel⟩, by decide +kernel⟩
set_option maxRecDepth 100000 in
theorem cw_54 : Cond.code (pg_name 54) (pg_bytes 54) (pg_max 54) (pg_ret 54) ∈ pg_ws := ck_mem.ok (i := 583) (by decide +kernel)
theorem cm_54 : (pg_tab 54 = [] → Cond.code (pg_name 54) (pg_bytes 54) (pg_max 54) (pg_ret 54) ∈ pg_ws) ∧ am_okM am_NM 54 := ⟨fun _ => cw_54, by unfold am_NM; decide, ⟨Or.inl ⟨rfl, cw_54⟩, by decide +kernel, by decide +kernel, by decide +kernel⟩, by decide +kernel⟩
set_option maxRecDepth 100000 in
theorem cw_55 : Cond.codeWith (pg_name 55) (pg_bytes 55) (pg_max 55) (pg_ret 55) ((pg_tab 55).map fun q => (q.1, q.2.1, q.2.2.1, q.2.2.2.1)) ∈ pg_ws := ck_mem.ok (i := 602) (by decide +kernel)
theorem cm_55 : (pg_tab 55 = [] → Cond.code (pg_name 55) (pg_bytes 55) (pg_max 55) (pg_ret 55) ∈ pg_ws) ∧ am_okM am_NM 55 := ⟨fun h => absurd h (by decide +kernel), by unfold am_NM; decide, ⟨Or.inr cw_55, by decide +kernel, by decide +kernel, by decide +kernel⟩, by decide +kernel⟩
set_option maxRecDepth 100000 in
theorem cw_56 : Cond.code (pg_name 56) (pg_bytes 56) (pg_max 56) (pg_ret 56) ∈ pg_ws := ck_mem.ok (i := 606) (by decide +kernel)
theorem cm_56 : (pg_tab 56 = [] → Cond.code (pg_name 56) (pg_bytes 56) (pg_max 56) (pg_ret 56) ∈ pg_ws) ∧ am_okM am_NM 56 := ⟨fun _ => cw_56, by unfold am_NM; decide, ⟨Or.inl ⟨rfl, cw_56⟩, by decide +kernel, by decide +kernel, by decide +kernel⟩, by decide +kernel⟩
set_option maxRecDepth 100000 in
theorem cw_57 : Cond.codeWith (pg_name 57) (pg_bytes 57) (pg_max 57) (pg_ret 57) ((pg_tab 57).map fun q => (q.1, q.2.1, q.2.2.1, q.2.2.2.1)) ∈ pg_ws := ck_mem.ok (i := 609) (by decide +kernel)
theorem cm_57 : (pg_tab 57 = [] → Cond.code (pg_name 57) (pg_bytes 57) (pg_max 57) (pg_ret 57) ∈ pg_ws) ∧ am_okM am_NM 57 := ⟨fun h => absurd h (by decide +kernel), by unfold am_NM; decide, ⟨Or.inr cw_57, by decide +kernel, by decide +kernel, by decide +kernel⟩, by decide +kernel⟩
set_option maxRecDepth 100000 in
theorem cw_58 : Cond.code (pg_name 58) (pg_bytes 58) (pg_max 58) (pg_ret 58) ∈ pg_ws := ck_mem.ok (i := 613) (by decide +kernel)
theorem cm_58 : (pg_tab 58 = [] → Cond.code (pg_name 58) (pg_bytes 58) (pg_max 58) (pg_ret 58) ∈ pg_ws) ∧ am_okM am_NM 58 := ⟨fun _ => cw_58, by unfold am_NM; decide, ⟨Or.inl ⟨rfl, cw_58⟩, by decide +kernel, by decide +kernel, by decide +kernel⟩, by decide +kernel⟩
set_option maxRecDepth 100000 in
theorem cw_59 : Cond.codeWith (pg_name 59) (pg_bytes 59) (pg_max 59) (pg_ret 59) ((pg_tab 59).map fun q => (q.1, q.2.1, q.2.2.1, q.2.2.2.1)) ∈ pg_ws := ck_mem.ok (i := 617) (by decide +kernel)
theorem cm_59 : (pg_tab 59 = [] → Cond.code (pg_name 59) (pg_bytes 59) (pg_max 59) (pg_ret 59) ∈ pg_ws) ∧ am_okM am_NM 59 := ⟨fun h => absurd h (by decide +kernel), by unfold am_NM; decide, ⟨Or.inr cw_59, by decide +kernel, by decide +kernel, by decide +kernel⟩, by decide +kernel⟩
set_option maxRecDepth 100000 in
theorem cw_60 : Cond.code (pg_name 60) (pg_bytes 60) (pg_max 60) (pg_ret 60) ∈ pg_ws := ck_mem.ok (i := 621) (by decide +kernel)
theorem cm_60 : (pg_tab 60 = [] → Cond.code (pg_name 60) (pg_bytes 60) (pg_max 60) (pg_ret 60) ∈ pg_ws) ∧ am_okM am_NM 60 := ⟨fun _ => cw_60, by unfold am_NM; decide, ⟨Or.inl ⟨rfl, cw_60⟩, by decide +kernel, by decide +kernel, by decide +kernel⟩, by decide +kernel⟩
set_option maxRecDepth 100000 in
theorem cw_61 : Cond.codeWith (pg_name 61) (pg_bytes 61) (pg_max 61) (pg_ret 61) ((pg_tab 61).map fun q => (q.1, q.2.1, q.2.2.1, q.2.2.2.1)) ∈ pg_ws := ck_mem.ok (i := 625) (by decide +kernel)
theorem cm_61 : (pg_tab 61 = [] → Cond.code (pg_name 61) (pg_bytes 61) (pg_max 61) (pg_ret 61) ∈ pg_ws) ∧ am_okM am_NM 61 := ⟨fun h => absurd h (by decide +kernel), by unfold am_NM; decide, ⟨Or.inr cw_61, by decide +kernel, by decide +kernel, by decide +kernel⟩, by decide +kernel⟩
set_option maxRecDepth 100000 in
theorem cw_62 : Cond.code (pg_name 62) (pg_bytes 62) (pg_max 62) (pg_ret 62) ∈ pg_ws := ck_mem.ok (i := 629) (by decide +kernel)
theorem cm_62 : (pg_tab 62 = [] → Cond.code (pg_name 62) (pg_bytes 62) (pg_max 62) (pg_ret 62) ∈ pg_ws) ∧ am_okM am_NM 62 := ⟨fun _ => cw_62, by unfold am_NM; decide, ⟨Or.inl ⟨rfl, cw_62⟩, by decide +kernel, by decide +kernel, by decide +kernel⟩, by decide +kernel⟩
set_option maxRecDepth 100000 in
theorem cw_63 : Cond.code (pg_name 63) (pg_bytes 63) (pg_max 63) (pg_ret 63) ∈ pg_ws := ck_mem.ok (i := 634) (by decide +kernel)
theorem cm_63 : (pg_tab 63 = [] → Cond.code (pg_name 63) (pg_bytes 63) (pg_max 63) (pg_ret 63) ∈ pg_ws) ∧ am_okM am_NM 63 := ⟨fun _ => cw_63, by unfold am_NM; decide, ⟨Or.inl ⟨rfl, cw_63⟩, by decide +kernel, by decide +kernel, by decide +kernel⟩, by decide +kernel⟩
set_option maxRecDepth 100000 in
theorem cw_64 : Cond.codeWith (pg_name 64) (pg_bytes 64) (pg_max 64) (pg_ret 64) ((pg_tab 64).map fun q => (q.1, q.2.1, q.2.2.1, q.2.2.2.1)) ∈ pg_ws := ck_mem.ok (i := 638) (by decide +kernel)
theorem cm_64 : (pg_tab 64 = [] → Cond.code (pg_name 64) (pg_bytes 64) (pg_max 64) (pg_ret 64) ∈ pg_ws) ∧ am_okM am_NM 64 := ⟨fun h => absurd h (by decide +kernel), by unfold am_NM; decide, ⟨Or.inr cw_64, by decide +kernel, by decide +kernel, by decide +kernel⟩, by decide +kernel⟩
set_option maxRecDepth 100000 in
theorem cw_65 : Cond.code (pg_name 65) (pg_bytes 65) (pg_max 65) (pg_ret 65) ∈ pg_ws := ck_mem.ok (i := 642) (by decide +kernel)
theorem cm_65 : (pg_tab 65 = [] → Cond.code (pg_name 65) (pg_bytes 65) (pg_max 65) (pg_ret 65) ∈ pg_ws) ∧ am_okM am_NM 65 := ⟨fun _ => cw_65, by unfold am_NM; decide, ⟨Or.inl ⟨rfl, cw_65⟩, by decide +kernel, by decide +kernel, by decide +kernel⟩, by decide +kernel⟩
set_option maxRecDepth 100000 in
theorem cw_66 : Cond.code (pg_name 66) (pg_bytes 66) (pg_max 66) (pg_ret 66) ∈ pg_ws := ck_mem.ok (i := 646) (by decide +kernel)
theorem cm_66 : (pg_tab 66 = [] → Cond.code (pg_name 66) (pg_bytes 66) (pg_max 66) (pg_ret 66) ∈ pg_ws) ∧ am_okM am_NM 66 := ⟨fun _ => cw_66, by unfold am_NM; decide, ⟨Or.inl ⟨rfl, cw_66⟩, by decide +kernel, by decide +kernel, by decide +kernel⟩, by decide +kernel⟩
set_option maxRecDepth 100000 in
theorem cw_67 : Cond.codeWith (pg_name 67) (pg_bytes 67) (pg_max 67) (pg_ret 67) ((pg_tab 67).map fun q => (q.1, q.2.1, q.2.2.1, q.2.2.2.1)) ∈ pg_ws := ck_mem.ok (i := 652) (by decide +kernel)
theorem cm_67 : (pg_tab 67 = [] → Cond.code (pg_name 67) (pg_bytes 67) (pg_max 67) (pg_ret 67) ∈ pg_ws) ∧ am_okM am_NM 67 := ⟨fun h => absurd h (by decide +kernel), by unfold am_NM; decide, ⟨Or.inr cw_67, by decide +kernel, by decide +kernel, by decide +kernel⟩, by decide +kernel⟩
set_option maxRecDepth 100000 in
theorem cw_68 : Cond.code (pg_name 68) (pg_bytes 68) (pg_max 68) (pg_ret 68) ∈ pg_ws := ck_mem.ok (i := 656) (by decide +kernel)
theorem cm_68 : (pg_tab 68 = [] → Cond.code (pg_name 68) (pg_bytes 68) (pg_max 68) (pg_ret 68) ∈ pg_ws) ∧ am_okM am_NM 68 := ⟨fun _ => cw_68, by unfold am_NM; decide, ⟨Or.inl ⟨rfl, cw_68⟩, by decide +kernel, by decide +kernel, by decide +kernel⟩, by decide +kernel⟩
set_option maxRecDepth 100000 in
theorem cw_69 : Cond.code (pg_name 69) (pg_bytes 69) (pg_max 69) (pg_ret 69) ∈ pg_ws := ck_mem.ok (i := 660) (by decide +kernel)
theorem cm_69 : (pg_tab 69 = [] → Cond.code (pg_name 69) (pg_bytes 69) (pg_max 69) (pg_ret 69) ∈ pg_ws) ∧ am_okM am_NM 69 := ⟨fun _ => cw_69, by unfold am_NM; decide, ⟨Or.inl ⟨rfl, cw_69⟩, by decide +kernel, by decide +kernel, by decide +kernel⟩, by decide +kernel⟩
set_option maxRecDepth 100000 in
theorem cw_70 : Cond.code (pg_name 70) (pg_bytes 70) (pg_max 70) (pg_ret 70) ∈ pg_ws := ck_mem.ok (i := 664) (by decide +kernel)
theorem cm_70 : (pg_tab 70 = [] → Cond.code (pg_name 70) (pg_bytes 70) (pg_max 70) (pg_ret 70) ∈ pg_ws) ∧ am_okM am_NM 70 := ⟨fun _ => cw_70, by unfold am_NM; decide, ⟨Or.inl ⟨rfl, cw_70⟩, by decide +kernel, by decide +kernel, by decide +kernel⟩, by decide +kernel⟩
set_option maxRecDepth 100000 in
theorem cw_71 : Cond.code (pg_name 71) (pg_bytes 71) (pg_max 71) (pg_ret 71) ∈ pg_ws := ck_mem.ok (i := 669) (by decide +kernel)
theorem cm_71 : (pg_tab 71 = [] → Cond.code (pg_name 71) (pg_bytes 71) (pg_max 71) (pg_ret 71) ∈ pg_ws) ∧ am_okM am_NM 71 := ⟨fun _ => cw_71, by unfold am_NM; decide, ⟨Or.inl ⟨rfl, cw_71⟩, by decide +kernel, by decide +kernel, by decide +kernel⟩, by decide +kernel⟩
set_option maxRecDepth 100000 in
theorem cw_72 : Cond.codeWith (pg_name 72) (pg_bytes 72) (pg_max 72) (pg_ret 72) ((pg_tab 72).map fun q => (q.1, q.2.1, q.2.2.1, q.2.2.2.1)) ∈ pg_ws := ck_mem.ok (i := 673) (by decide +kernel)
theorem cm_72 : (pg_tab 72 = [] → Cond.code (pg_name 72) (pg_bytes 72) (pg_max 72) (pg_ret 72) ∈ pg_ws) ∧ am_okM am_NM 72 := ⟨fun h => absurd h (by decide +kernel), by unfold am_NM; decide, ⟨Or.inr cw_72, by decide +kernel, by decide +kernel, by decide +kernel⟩, by decide +kernel⟩
set_option maxRecDepth 100000 in
theorem cw_73 : Cond.code (pg_name 73) (pg_bytes 73) (pg_max 73) (pg_ret 73) ∈ pg_ws := ck_mem.ok (i := 677) (by decide +kernel)
theorem cm_73 : (pg_tab 73 = [] → Cond.code (pg_name 73) (pg_bytes 73) (pg_max 73) (pg_ret 73) ∈ pg_ws) ∧ am_okM am_NM 73 := ⟨fun _ => cw_73, by unfold am_NM; decide, ⟨Or.inl ⟨rfl, cw_73⟩, by decide +kernel, by decide +kernel, by decide +kernel⟩, by decide +kernel⟩
set_option maxRecDepth 100000 in
theorem cw_74 : Cond.code (pg_name 74) (pg_bytes 74) (pg_max 74) (pg_ret 74) ∈ pg_ws := ck_mem.ok (i := 681) (by decide +kernel)
theorem cm_74 : (pg_tab 74 = [] → Cond.code (pg_name 74) (pg_bytes 74) (pg_max 74) (pg_ret 74) ∈ pg_ws) ∧ am_okM am_NM 74 := ⟨fun _ => cw_74, by unfold am_NM; decide, ⟨Or.inl ⟨rfl, cw_74⟩, by decide +kernel, by decide +kernel, by decide +kernel⟩, by decide +kernel⟩
set_option maxRecDepth 100000 in
theorem cw_75 : Cond.codeWith (pg_name 75) (pg_bytes 75) (pg_max 75) (pg_ret 75) ((pg_tab 75).map fun q => (q.1, q.2.1, q.2.2.1, q.2.2.2.1)) ∈ pg_ws := ck_mem.ok (i := 684) (by decide +kernel)
theorem cm_75 : (pg_tab 75 = [] → Cond.code (pg_name 75) (pg_bytes 75) (pg_max 75) (pg_ret 75) ∈ pg_ws) ∧ am_okM am_NM 75 := ⟨fun h => absurd h (by decide +kernel), by unfold am_NM; decide, ⟨Or.inr cw_75, by decide +kernel, by decide +kernel, by decide +kernel⟩, by decide +kernel⟩
set_option maxRecDepth 100000 in
theorem cw_76 : Cond.code (pg_name 76) (pg_bytes 76) (pg_max 76) (pg_ret 76) ∈ pg_ws := ck_mem.ok (i := 688) (by decide +kernel)
theorem cm_76 : (pg_tab 76 = [] → Cond.code (pg_name 76) (pg_bytes 76) (pg_max 76) (pg_ret 76) ∈ pg_ws) ∧ am_okM am_NM 76 := ⟨fun _ => cw_76, by unfold am_NM; decide, ⟨Or.inl ⟨rfl, cw_76⟩, by decide +kernel, by decide +kernel, by decide +kernel⟩, by decide +kernel⟩
set_option maxRecDepth 100000 in
theorem cw_77 : Cond.code (pg_name 77) (pg_bytes 77) (pg_max 77) (pg_ret 77) ∈ pg_ws := ck_mem.ok (i := 692) (by decide +kernel)
theorem cm_77 : (pg_tab 77 = [] → Cond.code (pg_name 77) (pg_bytes 77) (pg_max 77) (pg_ret 77) ∈ pg_ws) ∧ am_okM am_NM 77 := ⟨fun _ => cw_77, by unfold am_NM; decide, ⟨Or.inl ⟨rfl, cw_77⟩, by decide +kernel, by decide +kernel, by decide +kernel⟩, by decide +kernel⟩
set_option maxRecDepth 100000 in
theorem cw_78 : Cond.code (pg_name 78) (pg_bytes 78) (pg_max 78) (pg_ret 78) ∈ pg_ws := ck_mem.ok (i := 696) (by decide +kernel)
theorem cm_78 : (pg_tab 78 = [] → Cond.code (pg_name 78) (pg_bytes 78) (pg_max 78) (pg_ret 78) ∈ pg_ws) ∧ am_okM am_NM 78 := ⟨fun _ => cw_78, by unfold am_NM; decide, ⟨Or.inl ⟨rfl, cw_78⟩, by decide +kernel, by decide +kernel, by decide +kernel⟩, by decide +kernel⟩
set_option maxRecDepth 100000 in
theorem cw_79 : Cond.code (pg_name 79) (pg_bytes 79) (pg_max 79) (pg_ret 79) ∈ pg_ws := ck_mem.ok (i := 700) (by decide +kernel)
theorem cm_79 : (pg_tab 79 = [] → Cond.code (pg_name 79) (pg_bytes 79) (pg_max 79) (pg_ret 79) ∈ pg_ws) ∧ am_okM am_NM 79 := ⟨fun _ => cw_79, by unfold am_NM; decide, ⟨Or.inl ⟨rfl, cw_79⟩, by decide +kernel, by decide +kernel, by decide +kernel⟩, by decide +kernel⟩
set_option maxRecDepth 100000 in
theorem cw_80 : Cond.codeWith (pg_name 80) (pg_bytes 80) (pg_max 80) (pg_ret 80) ((pg_tab 80).map fun q => (q.1, q.2.1, q.2.2.1, q.2.2.2.1)) ∈ pg_ws := ck_mem.ok (i := 704) (by decide +kernel)
theorem cm_80 : (pg_tab 80 = [] → Cond.code (pg_name 80) (pg_bytes 80) (pg_max 80) (pg_ret 80) ∈ pg_ws) ∧ am_okM am_NM 80 := ⟨fun h => absurd h (by decide +kernel), by unfold am_NM; decide, ⟨Or.inr cw_80, by decide +kernel, by decide +kernel, by decide +kernel⟩, by decide +kernel⟩
set_option maxRecDepth 100000 in
theorem cw_81 : Cond.code (pg_name 81) (pg_bytes 81) (pg_max 81) (pg_ret 81) ∈ pg_ws := ck_mem.ok (i := 708) (by decide +kernel)
theorem cm_81 : (pg_tab 81 = [] → Cond.code (pg_name 81) (pg_bytes 81) (pg_max 81) (pg_ret 81) ∈ pg_ws) ∧ am_okM am_NM 81 := ⟨fun _ => cw_81, by unfold am_NM; decide, ⟨Or.inl ⟨rfl, cw_81⟩, by decide +kernel, by decide +kernel, by decide +kernel⟩, by decide +kernel⟩
set_option maxRecDepth 100000 in
theorem cw_82 : Cond.code (pg_name 82) (pg_bytes 82) (pg_max 82) (pg_ret 82) ∈ pg_ws := ck_mem.ok (i := 714) (by decide +kernel)
theorem cm_82 : (pg_tab 82 = [] → Cond.code (pg_name 82) (pg_bytes 82) (pg_max 82) (pg_ret 82) ∈ pg_ws) ∧ am_okM am_NM 82 := ⟨fun _ => cw_82, by unfold am_NM; decide, ⟨Or.inl ⟨rfl, cw_82⟩, by decide +kernel, by decide +kernel, by decide +kernel⟩, by decide +kernel⟩
set_option maxRecDepth 100000 in
theorem cw_83 : Cond.code (pg_name 83) (pg_bytes 83) (pg_max 83) (pg_ret 83) ∈ pg_ws := ck_mem.ok (i := 819) (by decide +kernel)
theorem cm_83 : (pg_tab 83 = [] → Cond.code (pg_name 83) (pg_bytes 83) (pg_max 83) (pg_ret 83) ∈ pg_ws) ∧ am_okM am_NM 83 := ⟨fun _ => cw_83, by unfold am_NM; decide, ⟨Or.inl ⟨rfl, cw_83⟩, by decide +kernel, by decide +kernel, by decide +kernel⟩, by decide +kernel⟩
set_option maxRecDepth 100000 in
theorem cw_84 : Cond.code (pg_name 84) (pg_bytes 84) (pg_max 84) (pg_ret 84) ∈ pg_ws := ck_mem.ok (i := 823) (by decide +kernel)
theorem cm_84 : (pg_tab 84 = [] → Cond.code (pg_name 84) (pg_bytes 84) (pg_max 84) (pg_ret 84) ∈ pg_ws) ∧ am_okM am_NM 84 := ⟨fun _ => cw_84, by unfold am_NM; decide, ⟨Or.inl ⟨rfl, cw_84⟩, by decide +kernel, by decide +kernel, by decide +kernel⟩, by decide +kernel⟩
set_option maxRecDepth 100000 in
theorem cw_85 : Cond.code (pg_name 85) (pg_bytes 85) (pg_max 85) (pg_ret 85) ∈ pg_ws := ck_mem.ok (i := 827) (by decide +kernel)
theorem cm_85 : (pg_tab 85 = [] → Cond.code (pg_name 85) (pg_bytes 85) (pg_max 85) (pg_ret 85) ∈ pg_ws) ∧ am_okM am_NM 85 := ⟨fun _ => cw_85, by unfold am_NM; decide, ⟨Or.inl ⟨rfl, cw_85⟩, by decide +kernel, by decide +kernel, by decide +kernel⟩, by decide +kernel⟩
set_option maxRecDepth 100000 in
theorem cw_86 : Cond.code (pg_name 86) (pg_bytes 86) (pg_max 86) (pg_ret 86) ∈ pg_ws := ck_mem.ok (i := 831) (by decide +kernel)
theorem cm_86 : (pg_tab 86 = [] → Cond.code (pg_name 86) (pg_bytes 86) (pg_max 86) (pg_ret 86) ∈ pg_ws) ∧ am_okM am_NM 86 := ⟨fun _ => cw_86, by unfold am_NM; decide, ⟨Or.inl ⟨rfl, cw_86⟩, by decide +kernel, by decide +kernel, by decide +kernel⟩, by decide +kernel⟩
set_option maxRecDepth 100000 in
theorem cw_87 : Cond.code (pg_name 87) (pg_bytes 87) (pg_max 87) (pg_ret 87) ∈ pg_ws := ck_mem.ok (i := 835) (by decide +kernel)
theorem cm_87 : (pg_tab 87 = [] → Cond.code (pg_name 87) (pg_bytes 87) (pg_max 87) (pg_ret 87) ∈ pg_ws) ∧ am_okM am_NM 87 := ⟨fun _ => cw_87, by unfold am_NM; decide, ⟨Or.inl ⟨rfl, cw_87⟩, by decide +kernel, by decide +kernel, by decide +kernel⟩, by decide +kernel⟩
set_option maxRecDepth 100000 in
theorem cw_88 : Cond.code (pg_name 88) (pg_bytes 88) (pg_max 88) (pg_ret 88) ∈ pg_ws := ck_mem.ok (i := 838) (by decide +kernel)
theorem cm_88 : (pg_tab 88 = [] → Cond.code (pg_name 88) (pg_bytes 88) (pg_max 88) (pg_ret 88) ∈ pg_ws) ∧ am_okM am_NM 88 := ⟨fun _ => cw_88, by unfold am_NM; decide, ⟨Or.inl ⟨rfl, cw_88⟩, by decide +kernel, by decide +kernel, by decide +kernel⟩, by decide +kernel⟩
set_option maxRecDepth 100000 in
theorem cw_89 : Cond.code (pg_name 89) (pg_bytes 89) (pg_max 89) (pg_ret 89) ∈ pg_ws := ck_mem.ok (i := 842) (by decide +kernel)
theorem cm_89 : (pg_tab 89 = [] → Cond.code (pg_name 89) (pg_bytes 89) (pg_max 89) (pg_ret 89) ∈ pg_ws) ∧ am_okM am_NM 89 := ⟨fun _ => cw_89, by unfold am_NM; decide, ⟨Or.inl ⟨rfl, cw_89⟩, by decide +kernel, by decide +kernel, by decide +kernel⟩, by decide +kernel⟩
set_option maxRecDepth 100000 in
theorem cw_90 : Cond.code (pg_name 90) (pg_bytes 90) (pg_max 90) (pg_ret 90) ∈ pg_ws := ck_mem.ok (i := 846) (by decide +kernel)
theorem cm_90 : (pg_tab 90 = [] → Cond.code (pg_name 90) (pg_bytes 90) (pg_max 90) (pg_ret 90) ∈ pg_ws) ∧ am_okM am_NM 90 := ⟨fun _ => cw_90, by unfold am_NM; decide, ⟨Or.inl ⟨rfl, cw_90⟩, by decide +kernel, by decide +kernel, by decide +kernel⟩, by decide +kernel⟩
set_option maxRecDepth 100000 in
theorem cw_91 : Cond.code (pg_name 91) (pg_bytes 91) (pg_max 91) (pg_ret 91) ∈ pg_ws := ck_mem.ok (i := 849) (by decide +kernel)
theorem cm_91 : (pg_tab 91 = [] → Cond.code (pg_name 91) (pg_bytes 91) (pg_max 91) (pg_ret 91) ∈ pg_ws) ∧ am_okM am_NM 91 := ⟨fun _ => cw_91, by unfold am_NM; decide, ⟨Or.inl ⟨rfl, cw_91⟩, by decide +kernel, by decide +kernel, by decide +kernel⟩, by decide +kernel⟩
set_option maxRecDepth 100000 in
theorem cw_92 : Cond.code (pg_name 92) (pg_bytes 92) (pg_max 92) (pg_ret 92) ∈ pg_ws := ck_mem.ok (i := 853) (by decide +kernel)
theorem cm_92 : (pg_tab 92 = [] → Cond.code (pg_name 92) (pg_bytes 92) (pg_max 92) (pg_ret 92) ∈ pg_ws) ∧ am_okM am_NM 92 := ⟨fun _ => cw_92, by unfold am_NM; decide, ⟨Or.inl ⟨rfl, cw_92⟩, by decide +kernel, by decide +kernel, by decide +kernel⟩, by decide +kernel⟩
set_option maxRecDepth 100000 in
theorem cw_93 : Cond.code (pg_name 93) (pg_bytes 93) (pg_max 93) (pg_ret 93) ∈ pg_ws := ck_mem.ok (i := 857) (by decide +kernel)
theorem cm_93 : (pg_tab 93 = [] → Cond.code (pg_name 93) (pg_bytes 93) (pg_max 93) (pg_ret 93) ∈ pg_ws) ∧ am_okM am_NM 93 := ⟨fun _ => cw_93, by unfold am_NM; decide, ⟨Or.inl ⟨rfl, cw_93⟩, by decide +kernel, by decide +kernel, by decide +kernel⟩, by decide +kernel⟩
set_option maxRecDepth 100000 in
theorem cw_94 : Cond.code (pg_name 94) (pg_bytes 94) (pg_max 94) (pg_ret 94) ∈ pg_ws := ck_mem.ok (i := 861) (by decide +kernel)
theorem cm_94 : (pg_tab 94 = [] → Cond.code (pg_name 94) (pg_bytes 94) (pg_max 94) (pg_ret 94) ∈ pg_ws) ∧ am_okM am_NM 94 := ⟨fun _ => cw_94, by unfold am_NM; decide, ⟨Or.inl ⟨rfl, cw_94⟩, by decide +kernel, by decide +kernel, by decide +kernel⟩, by decide +kernel⟩
set_option maxRecDepth 100000 in
theorem cw_95 : Cond.code (pg_name 95) (pg_bytes 95) (pg_max 95) (pg_ret 95) ∈ pg_ws := ck_mem.ok (i := 865) (by decide +kernel)
theorem cm_95 : (pg_tab 95 = [] → Cond.code (pg_name 95) (pg_bytes 95) (pg_max 95) (pg_ret 95) ∈ pg_ws) ∧ am_okM am_NM 95 := ⟨fun _ => cw_95, by unfold am_NM; decide, ⟨Or.inl ⟨rfl, cw_95⟩, by decide +kernel, by decide +kernel, by decide +kernel⟩, by decide +kernel⟩
set_option maxRecDepth 100000 in
theorem cw_96 : Cond.code (pg_name 96) (pg_bytes 96) (pg_max 96) (pg_ret 96) ∈ pg_ws := ck_mem.ok (i := 869) (by decide +kernel)
theorem cm_96 : (pg_tab 96 = [] → Cond.code (pg_name 96) (pg_bytes 96) (pg_max 96) (pg_ret 96) ∈ pg_ws) ∧ am_okM am_NM 96 := ⟨fun _ => cw_96, by unfold am_NM; decide, ⟨Or.inl ⟨rfl, cw_96⟩, by decide +kernel, by decide +kernel, by decide +kernel⟩, by decide +kernel⟩
set_option maxRecDepth 100000 in
theorem cw_97 : Cond.code (pg_name 97) (pg_bytes 97) (pg_max 97) (pg_ret 97) ∈ pg_ws := ck_mem.ok (i := 873) (by decide +kernel)
theorem cm_97 : (pg_tab 97 = [] → Cond.code (pg_name 97) (pg_bytes 97) (pg_max 97) (pg_ret 97) ∈ pg_ws) ∧ am_okM am_NM 97 := ⟨fun _ => cw_97, by unfold am_NM; decide, ⟨Or.inl ⟨rfl, cw_97⟩, by decide +kernel, by decide +kernel, by decide +kernel⟩, by decide +kernel⟩
set_option maxRecDepth 100000 in
theorem cw_98 : Cond.code (pg_name 98) (pg_bytes 98) (pg_max 98) (pg_ret 98) ∈ pg_ws := ck_mem.ok (i := 877) (by decide +kernel)
theorem cm_98 : (pg_tab 98 = [] → Cond.code (pg_name 98) (pg_bytes 98) (pg_max 98) (pg_ret 98) ∈ pg_ws) ∧ am_okM am_NM 98 := ⟨fun _ => cw_98, by unfold am_NM; decide, ⟨Or.inl ⟨rfl, cw_98⟩, by decide +kernel, by decide +kernel, by decide +kernel⟩, by decide +kernel⟩
set_option maxRecDepth 100000 in
theorem cw_99 : Cond.code (pg_name 99) (pg_bytes 99) (pg_max 99) (pg_ret 99) ∈ pg_ws := ck_mem.ok (i := 881) (by decide +kernel)
theorem cm_99 : (pg_tab 99 = [] → Cond.code (pg_name 99) (pg_bytes 99) (pg_max 99) (pg_ret 99) ∈ pg_ws) ∧ am_okM am_NM 99 := ⟨fun _ => cw_99, by unfold am_NM; decide, ⟨Or.inl ⟨rfl, cw_99⟩, by decide +kernel, by decide +kernel, by decide +kernel⟩, by decide +kernel⟩
set_option maxRecDepth 100000 in
theorem cw_100 : Cond.code (pg_name 100) (pg_bytes 100) (pg_max 100) (pg_ret 100) ∈ pg_ws := ck_mem.ok (i := 885) (by decide +kernel)
theorem cm_100 : (pg_tab 100 = [] → Cond.code (pg_name 100) (pg_bytes 100) (pg_max 100) (pg_ret 100) ∈ pg_ws) ∧ am_okM am_NM 100 := ⟨fun _ => cw_100, by unfold am_NM; decide, ⟨Or.inl ⟨rfl, cw_100⟩, by decide +kernel, by decide +kernel, by decide +kernel⟩, by decide +kernel⟩
set_option maxRecDepth 100000 in
theorem cw_101 : Cond.code (pg_name 101) (pg_bytes 101) (pg_max 101) (pg_ret 101) ∈ pg_ws := ck_mem.ok (i := 889) (by decide +kernel)
theorem cm_101 : (pg_tab 101 = [] → Cond.code (pg_name 101) (pg_bytes 101) (pg_max 101) (pg_ret 101) ∈ pg_ws) ∧ am_okM am_NM 101 := ⟨fun _ => cw_101, by unfold am_NM; decide, ⟨Or.inl ⟨rfl, cw_101⟩, by decide +kernel, by decide +kernel, by decide +kernel⟩, by decide +kernel⟩
set_option maxRecDepth 100000 in
theorem cw_102 : Cond.code (pg_name 102) (pg_bytes 102) (pg_max 102) (pg_ret 102) ∈ pg_ws := ck_mem.ok (i := 893) (by decide +kernel)
theorem cm_102 : (pg_tab 102 = [] → Cond.code (pg_name 102) (pg_bytes 102) (pg_max 102) (pg_ret 102) ∈ pg_ws) ∧ am_okM am_NM 102 := ⟨fun _ => cw_102, by unfold am_NM; decide, ⟨Or.inl ⟨rfl, cw_102⟩, by decide +kernel, by decide +kernel, by decide +kernel⟩, by decide +kernel⟩
set_option maxRecDepth 100000 in
theorem cw_103 : Cond.code (pg_name 103) (pg_bytes 103) (pg_max 103) (pg_ret 103) ∈ pg_ws := ck_mem.ok (i := 897) (by decide +kernel)
theorem cm_103 : (pg_tab 103 = [] → Cond.code (pg_name 103) (pg_bytes 103) (pg_max 103) (pg_ret 103) ∈ pg_ws) ∧ am_okM am_NM 103 := ⟨fun _ => cw_103, by unfold am_NM; decide, ⟨Or.inl ⟨rfl, cw_103⟩, by decide +kernel, by decide +kernel, by decide +kernel⟩, by decide +kernel⟩
set_option maxRecDepth 100000 in
theorem cw_104 : Cond.code (pg_name 104) (pg_bytes 104) (pg_max 104) (pg_ret 104) ∈ pg_ws := ck_mem.ok (i := 901) (by decide +kernel)
theorem cm_104 : (pg_tab 104 = [] → Cond.code (pg_name 104) (pg_bytes 104) (pg_max 104) (pg_ret 104) ∈ pg_ws) ∧ am_okM am_NM 104 := ⟨fun _ => cw_104, by unfold am_NM; decide, ⟨Or.inl ⟨rfl, cw_104⟩, by decide +kernel, by decide +kernel, by decide +kernel⟩, by decide +kernel⟩
set_option maxRecDepth 100000 in
theorem cw_105 : Cond.code (pg_name 105) (pg_bytes 105) (pg_max 105) (pg_ret 105) ∈ pg_ws := ck_mem.ok (i := 905) (by decide +kernel)
theorem cm_105 : (pg_tab 105 = [] → Cond.code (pg_name 105) (pg_bytes 105) (pg_max 105) (pg_ret 105) ∈ pg_ws) ∧ am_okM am_NM 105 := ⟨fun _ => cw_105, by unfold am_NM; decide, ⟨Or.inl ⟨rfl, cw_105⟩, by decide +kernel, by decide +kernel, by decide +kernel⟩, by decide +kernel⟩
set_option maxRecDepth 100000 in
theorem cw_106 : Cond.code (pg_name 106) (pg_bytes 106) (pg_max 106) (pg_ret 106) ∈ pg_ws := ck_mem.ok (i := 909) (by decide +kernel)
theorem cm_106 : (pg_tab 106 = [] → Cond.code (pg_name 106) (pg_bytes 106) (pg_max 106) (pg_ret 106) ∈ pg_ws) ∧ am_okM am_NM 106 := ⟨fun _ => cw_106, by unfold am_NM; decide, ⟨Or.inl ⟨rfl, cw_106⟩, by decide +kernel, by decide +kernel, by decide +kernel⟩, by decide +kernel⟩
set_option maxRecDepth 100000 in
theorem cw_107 : Cond.code (pg_name 107) (pg_bytes 107) (pg_max 107) (pg_ret 107) ∈ pg_ws := ck_mem.ok (i := 913) (by decide +kernel)
theorem cm_107 : (pg_tab 107 = [] → Cond.code (pg_name 107) (pg_bytes 107) (pg_max 107) (pg_ret 107) ∈ pg_ws) ∧ am_okM am_NM 107 := ⟨fun _ => cw_107, by unfold am_NM; decide, ⟨Or.inl ⟨rfl, cw_107⟩, by decide +kernel, by decide +kernel, by decide +kernel⟩, by decide +kernel⟩
set_option maxRecDepth 100000 in
theorem cw_108 : Cond.code (pg_name 108) (pg_bytes 108) (pg_max 108) (pg_ret 108) ∈ pg_ws := ck_mem.ok (i := 917) (by decide +kernel)
theorem cm_108 : (pg_tab 108 = [] → Cond.code (pg_name 108) (pg_bytes 108) (pg_max 108) (pg_ret 108) ∈ pg_ws) ∧ am_okM am_NM 108 := ⟨fun _ => cw_108, by unfold am_NM; decide, ⟨Or.inl ⟨rfl, cw_108⟩, by decide +kernel, by decide +kernel, by decide +kernel⟩, by decide +kernel⟩
set_option maxRecDepth 100000 in
theorem cw_109 : Cond.code (pg_name 109) (pg_bytes 109) (pg_max 109) (pg_ret 109) ∈ pg_ws := ck_mem.ok (i := 921) (by decide +kernel)
theorem cm_109 : (pg_tab 109 = [] → Cond.code (pg_name 109) (pg_bytes 109) (pg_max 109) (pg_ret 109) ∈ pg_ws) ∧ am_okM am_NM 109 := ⟨fun _ => cw_109, by unfold am_NM; decide, ⟨Or.inl ⟨rfl, cw_109⟩, by decide +kernel, by decide +kernel, by decide +kernel⟩, by decide +kernel⟩
set_option maxRecDepth 100000 in
theorem cw_110 : Cond.code (pg_name 110) (pg_bytes 110) (pg_max 110) (pg_ret 110) ∈ pg_ws := ck_mem.ok (i := 925) (by decide +kernel)
theorem cm_110 : (pg_tab 110 = [] → Cond.code (pg_name 110) (pg_bytes 110) (pg_max 110) (pg_ret 110) ∈ pg_ws) ∧ am_okM am_NM 110 := ⟨fun _ => cw_110, by unfold am_NM; decide, ⟨Or.inl ⟨rfl, cw_110⟩, by decide +kernel, by decide +kernel, by decide +kernel⟩, by decide +kernel⟩
set_option maxRecDepth 100000 in
theorem cw_111 : Cond.code (pg_name 111) (pg_bytes 111) (pg_max 111) (pg_ret 111) ∈ pg_ws := ck_mem.ok (i := 929) (by decide +kernel)
theorem cm_111 : (pg_tab 111 = [] → Cond.code (pg_name 111) (pg_bytes 111) (pg_max 111) (pg_ret 111) ∈ pg_ws) ∧ am_okM am_NM 111 := ⟨fun _ => cw_111, by unfold am_NM; decide, ⟨Or.inl ⟨rfl, cw_111⟩, by decide +kernel, by decide +kernel, by decide +kernel⟩, by decide +kernel⟩
set_option maxRecDepth 100000 in
theorem cw_112 : Cond.code (pg_name 112) (pg_bytes 112) (pg_max 112) (pg_ret 112) ∈ pg_ws := ck_mem.ok (i := 933) (by decide +kernel)
theorem cm_112 : (pg_tab 112 = [] → Cond.code (pg_name 112) (pg_bytes 112) (pg_max 112) (pg_ret 112) ∈ pg_ws) ∧ am_okM am_NM 112 := ⟨fun _ => cw_112, by unfold am_NM; decide, ⟨Or.inl ⟨rfl, cw_112⟩, by decide +kernel, by decide +kernel, by decide +kernel⟩, by decide +kernel⟩
set_option maxRecDepth 100000 in
theorem cw_113 : Cond.code (pg_name 113) (pg_bytes 113) (pg_max 113) (pg_ret 113) ∈ pg_ws := ck_mem.ok (i := 937) (by decide +kernel)
theorem cm_113 : (pg_tab 113 = [] → Cond.code (pg_name 113) (pg_bytes 113) (pg_max 113) (pg_ret 113) ∈ pg_ws) ∧ am_okM am_NM 113 := ⟨fun _ => cw_113, by unfold am_NM; decide, ⟨Or.inl ⟨rfl, cw_113⟩, by decide +kernel, by decide +kernel, by decide +kernel⟩, by decide +kernel⟩
set_option maxRecDepth 100000 in
theorem cw_114 : Cond.code (pg_name 114) (pg_bytes 114) (pg_max 114) (pg_ret 114) ∈ pg_ws := ck_mem.ok (i := 941) (by decide +kernel)
theorem cm_114 : (pg_tab 114 = [] → Cond.code (pg_name 114) (pg_bytes 114) (pg_max 114) (pg_ret 114) ∈ pg_ws) ∧ am_okM am_NM 114 := ⟨fun _ => cw_114, by unfold am_NM; decide, ⟨Or.inl ⟨rfl, cw_114⟩, by decide +kernel, by decide +kernel, by decide +kernel⟩, by decide +kernel⟩
set_option maxRecDepth 100000 in
theorem cw_115 : Cond.code (pg_name 115) (pg_bytes 115) (pg_max 115) (pg_ret 115) ∈ pg_ws := ck_mem.ok (i := 945) (by decide +kernel)
theorem cm_115 : (pg_tab 115 = [] → Cond.code (pg_name 115) (pg_bytes 115) (pg_max 115) (pg_ret 115) ∈ pg_ws) ∧ am_okM am_NM 115 := ⟨fun _ => cw_115, by unfold am_NM; decide, ⟨Or.inl ⟨rfl, cw_115⟩, by decide +kernel, by decide +kernel, by decide +kernel⟩, by decide +kernel⟩
set_option maxRecDepth 100000 in
theorem cw_116 : Cond.code (pg_name 116) (pg_bytes 116) (pg_max 116) (pg_ret 116) ∈ pg_ws := ck_mem.ok (i := 949) (by decide +kernel)
theorem cm_116 : (pg_tab 116 = [] → Cond.code (pg_name 116) (pg_bytes 116) (pg_max 116) (pg_ret 116) ∈ pg_ws) ∧ am_okM am_NM 116 := ⟨fun _ => cw_116, by unfold am_NM; decide, ⟨Or.inl ⟨rfl, cw_116⟩, by decide +kernel, by decide +kernel, by decide +kernel⟩, by decide +kernel⟩
set_option maxRecDepth 100000 in
theorem cw_117 : Cond.code (pg_name 117) (pg_bytes 117) (pg_max 117) (pg_ret 117) ∈ pg_ws := ck_mem.ok (i := 953) (by decide +kernel)
theorem cm_117 : (pg_tab 117 = [] → Cond.code (pg_name 117) (pg_bytes 117) (pg_max 117) (pg_ret 117) ∈ pg_ws) ∧ am_okM am_NM 117 := ⟨fun _ => cw_117, by unfold am_NM; decide, ⟨Or.inl ⟨rfl, cw_117⟩, by decide +kernel, by decide +kernel, by decide +kernel⟩, by decide +kernel⟩
set_option maxRecDepth 100000 in
theorem cw_118 : Cond.code (pg_name 118) (pg_bytes 118) (pg_max 118) (pg_ret 118) ∈ pg_ws := ck_mem.ok (i := 957) (by decide +kernel)
theorem cm_118 : (pg_tab 118 = [] → Cond.code (pg_name 118) (pg_bytes 118) (pg_max 118) (pg_ret 118) ∈ pg_ws) ∧ am_okM am_NM 118 := ⟨fun _ => cw_118, by unfold am_NM; decide, ⟨Or.inl ⟨rfl, cw_118⟩, by decide +kernel, by decide +kernel, by decide +kernel⟩, by decide +kernel⟩
set_option maxRecDepth 100000 in
theorem cw_119 : Cond.code (pg_name 119) (pg_bytes 119) (pg_max 119) (pg_ret 119) ∈ pg_ws := ck_mem.ok (i := 961) (by decide +kernel)
theorem cm_119 : (pg_tab 119 = [] → Cond.code (pg_name 119) (pg_bytes 119) (pg_max 119) (pg_ret 119) ∈ pg_ws) ∧ am_okM am_NM 119 := ⟨fun _ => cw_119, by unfold am_NM; decide, ⟨Or.inl ⟨rfl, cw_119⟩, by decide +kernel, by decide +kernel, by decide +kernel⟩, by decide +kernel⟩
set_option maxRecDepth 100000 in
theorem cw_120 : Cond.code (pg_name 120) (pg_bytes 120) (pg_max 120) (pg_ret 120) ∈ pg_ws := ck_mem.ok (i := 965) (by decide +kernel)
theorem cm_120 : (pg_tab 120 = [] → Cond.code (pg_name 120) (pg_bytes 120) (pg_max 120) (pg_ret 120) ∈ pg_ws) ∧ am_okM am_NM 120 := ⟨fun _ => cw_120, by unfold am_NM; decide, ⟨Or.inl ⟨rfl, cw_120⟩, by decide +kernel, by decide +kernel, by decide +kernel⟩, by decide +kernel⟩
set_option maxRecDepth 100000 in
theorem cw_121 : Cond.code (pg_name 121) (pg_bytes 121) (pg_max 121) (pg_ret 121) ∈ pg_ws := ck_mem.ok (i := 969) (by decide +kernel)
theorem cm_121 : (pg_tab 121 = [] → Cond.code (pg_name 121) (pg_bytes 121) (pg_max 121) (pg_ret 121) ∈ pg_ws) ∧ am_okM am_NM 121 := ⟨fun _ => cw_121, by unfold am_NM; decide, ⟨Or.inl ⟨rfl, cw_121⟩, by decide +kernel, by decide +kernel, by decide +kernel⟩, by decide +kernel⟩
set_option maxRecDepth 100000 in
theorem cw_122 : Cond.code (pg_name 122) (pg_bytes 122) (pg_max 122) (pg_ret 122) ∈ pg_ws := ck_mem.ok (i := 973) (by decide +kernel)
theorem cm_122 : (pg_tab 122 = [] → Cond.code (pg_name 122) (pg_bytes 122) (pg_max 122) (pg_ret 122) ∈ pg_ws) ∧ am_okM am_NM 122 := ⟨fun _ => cw_122, by unfold am_NM; decide, ⟨Or.inl ⟨rfl, cw_122⟩, by decide +kernel, by decide +kernel, by decide +kernel⟩, by decide +kernel⟩
set_option maxRecDepth 100000 in
theorem cw_123 : Cond.code (pg_name 123) (pg_bytes 123) (pg_max 123) (pg_ret 123) ∈ pg_ws := ck_mem.ok (i := 977) (by decide +kernel)
theorem cm_123 : (pg_tab 123 = [] → Cond.code (pg_name 123) (pg_bytes 123) (pg_max 123) (pg_ret 123) ∈ pg_ws) ∧ am_okM am_NM 123 := ⟨fun _ => cw_123, by unfold am_NM; decide, ⟨Or.inl ⟨rfl, cw_123⟩, by decide +kernel, by decide +kernel, by decide +kernel⟩, by decide +kernel⟩
set_option maxRecDepth 100000 in
theorem cw_124 : Cond.code (pg_name 124) (pg_bytes 124) (pg_max 124) (pg_ret 124) ∈ pg_ws := ck_mem.ok (i := 981) (by decide +kernel)
theorem cm_124 : (pg_tab 124 = [] → Cond.code (pg_name 124) (pg_bytes 124) (pg_max 124) (pg_ret 124) ∈ pg_ws) ∧ am_okM am_NM 124 := ⟨fun _ => cw_124, by unfold am_NM; decide, ⟨Or.inl ⟨rfl, cw_124⟩, by decide +kernel, by decide +kernel, by decide +kernel⟩, by decide +kernel⟩
set_option maxRecDepth 100000 in
theorem cw_125 : Cond.code (pg_name 125) (pg_bytes 125) (pg_max 125) (pg_ret 125) ∈ pg_ws := ck_mem.ok (i := 985) (by decide +kernel)
theorem cm_125 : (pg_tab 125 = [] → Cond.code (pg_name 125) (pg_bytes 125) (pg_max 125) (pg_ret 125) ∈ pg_ws) ∧ am_okM am_NM 125 := ⟨fun _ => cw_125, by unfold am_NM; decide, ⟨Or.inl ⟨rfl, cw_125⟩, by decide +kernel, by decide +kernel, by decide +kernel⟩, by decide +kernel⟩
set_option maxRecDepth 100000 in
theorem cw_126 : Cond.code (pg_name 126) (pg_bytes 126) (pg_max 126) (pg_ret 126) ∈ pg_ws := ck_mem.ok (i := 989) (by decide +kernel)
theorem cm_126 : (pg_tab 126 = [] → Cond.code (pg_name 126) (pg_bytes 126) (pg_max 126) (pg_ret 126) ∈ pg_ws) ∧ am_okM am_NM 126 := ⟨fun _ => cw_126, by unfold am_NM; decide, ⟨Or.inl ⟨rfl, cw_126⟩, by decide +kernel, by decide +kernel, by decide +kernel⟩, by decide +kernel⟩
set_option maxRecDepth 100000 in
theorem cw_127 : Cond.code (pg_name 127) (pg_bytes 127) (pg_max 127) (pg_ret 127) ∈ pg_ws := ck_mem.ok (i := 993) (by decide +kernel)
theorem cm_127 : (pg_tab 127 = [] → Cond.code (pg_name 127) (pg_bytes 127) (pg_max 127) (pg_ret 127) ∈ pg_ws) ∧ am_okM am_NM 127 := ⟨fun _ => cw_127, by unfold am_NM; decide, ⟨Or.inl ⟨rfl, cw_127⟩, by decide +kernel, by decide +kernel, by decide +kernel⟩, by decide +kernel⟩
set_option maxRecDepth 100000 in
theorem cw_128 : Cond.code (pg_name 128) (pg_bytes 128) (pg_max 128) (pg_ret 128) ∈ pg_ws := ck_mem.ok (i := 997) (by decide +kernel)
theorem cm_128 : (pg_tab 128 = [] → Cond.code (pg_name 128) (pg_bytes 128) (pg_max 128) (pg_ret 128) ∈ pg_ws) ∧ am_okM am_NM 128 := ⟨fun _ => cw_128, by unfold am_NM; decide, ⟨Or.inl ⟨rfl, cw_128⟩, by decide +kernel, by decide +kernel, by decide +kernel⟩, by decide +kernel⟩
