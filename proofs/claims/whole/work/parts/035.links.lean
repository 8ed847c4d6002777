theorem in_Pw : ∀ w ∈ u_ws R_Pw T_Pw 12, w ∈ mWS := by decide +kernel
theorem fd_Pw : mFd 0 R_Pw T_Pw 12 ty_Pw := ⟨rfl, in_Pw, ok_Pw, nm_Pw, dc_Pw⟩
theorem in_Rd : ∀ w ∈ u_ws R_Rd T_Rd 3, w ∈ mWS := by decide +kernel
theorem fd_Rd : mFd 1 R_Rd T_Rd 3 ty_Rd := ⟨rfl, in_Rd, ok_Rd, nm_Rd, dc_Rd⟩
theorem in_RL : ∀ w ∈ u_ws R_RL T_RL 2, w ∈ mWS := by decide +kernel
theorem fd_RL : mFd 2 R_RL T_RL 2 ty_RL := ⟨rfl, in_RL, ok_RL, nm_RL, dc_RL⟩
theorem in_Ev : ∀ w ∈ u_ws R_Ev T_Ev 5, w ∈ mWS := by decide +kernel
theorem fd_Ev : mFd 3 R_Ev T_Ev 5 ty_Ev := ⟨rfl, in_Ev, ok_Ev, nm_Ev, dc_Ev⟩
theorem in_Pt : ∀ w ∈ u_ws R_Pt T_Pt 6, w ∈ mWS := by decide +kernel
theorem fd_Pt : mFd 4 R_Pt T_Pt 6 ty_Pt := ⟨rfl, in_Pt, ok_Pt, nm_Pt, dc_Pt⟩
theorem in_El : ∀ w ∈ u_ws R_El T_El 6, w ∈ mWS := by decide +kernel
theorem fd_El : mFd 5 R_El T_El 6 ty_El := ⟨rfl, in_El, ok_El, nm_El, dc_El⟩
theorem in_Ru : ∀ w ∈ u_ws R_Ru T_Ru 8, w ∈ mWS := by decide +kernel
theorem fd_Ru : mFd 6 R_Ru T_Ru 8 ty_Ru := ⟨rfl, in_Ru, ok_Ru, nm_Ru, dc_Ru⟩
theorem in_Md : ∀ w ∈ u_ws R_Md T_Md 37, w ∈ mWS := by decide +kernel
theorem fd_Md : mFd 7 R_Md T_Md 37 ty_Md := ⟨rfl, in_Md, ok_Md, nm_Md, dc_Md⟩
theorem fa_Pw_12 : mFl R_Pw 12 0 0 true (.object "PatternWatch$Reader") := ⟨R_Pw, T_Pw, 12, ty_Pw, fd_Pw, by decide, (mIn 245 (by decide +kernel) rfl), rfl, rfl, fun _ => rfl⟩
theorem fa_Pw_19 : mFl R_Pw 19 0 1 true (.object "PatternWatch$RunList") := ⟨R_Pw, T_Pw, 12, ty_Pw, fd_Pw, by decide, (mIn 246 (by decide +kernel) rfl), rfl, rfl, fun _ => rfl⟩
theorem fa_Pw_23 : mFl R_Pw 23 0 2 true (.object "PatternWatch$RunList") := ⟨R_Pw, T_Pw, 12, ty_Pw, fd_Pw, by decide, (mIn 247 (by decide +kernel) rfl), rfl, rfl, fun _ => rfl⟩
theorem fa_Pw_29 : mFl R_Pw 29 0 3 true (.object "PatternWatch$Event") := ⟨R_Pw, T_Pw, 12, ty_Pw, fd_Pw, by decide, (mIn 248 (by decide +kernel) rfl), rfl, rfl, fun _ => rfl⟩
theorem fa_Pw_36 : mFl R_Pw 36 0 4 false (.object "PatternWatch$Pattern") := ⟨R_Pw, T_Pw, 12, ty_Pw, fd_Pw, by decide, (mIn 249 (by decide +kernel) rfl), rfl, rfl, fun _ => rfl⟩
theorem fa_Pw_40 : mFl R_Pw 40 0 5 false (.object "PatternWatch$Pattern") := ⟨R_Pw, T_Pw, 12, ty_Pw, fd_Pw, by decide, (mIn 250 (by decide +kernel) rfl), rfl, rfl, fun _ => rfl⟩
theorem fa_Pw_43 : mFl R_Pw 43 0 6 false (.int) := ⟨R_Pw, T_Pw, 12, ty_Pw, fd_Pw, by decide, (mIn 251 (by decide +kernel) rfl), rfl, rfl, fun _ => rfl⟩
theorem fa_Pw_88 : mFl R_Pw 88 0 7 false (.int) := ⟨R_Pw, T_Pw, 12, ty_Pw, fd_Pw, by decide, (mIn 252 (by decide +kernel) rfl), rfl, rfl, fun _ => rfl⟩
theorem fa_Pw_116 : mFl R_Pw 116 0 8 false (.int) := ⟨R_Pw, T_Pw, 12, ty_Pw, fd_Pw, by decide, (mIn 253 (by decide +kernel) rfl), rfl, rfl, fun _ => rfl⟩
theorem fa_Pw_157 : mFl R_Pw 157 0 9 false (.int) := ⟨R_Pw, T_Pw, 12, ty_Pw, fd_Pw, by decide, (mIn 254 (by decide +kernel) rfl), rfl, rfl, fun _ => rfl⟩
theorem fa_Pw_160 : mFl R_Pw 160 0 10 false (.int) := ⟨R_Pw, T_Pw, 12, ty_Pw, fd_Pw, by decide, (mIn 255 (by decide +kernel) rfl), rfl, rfl, fun _ => rfl⟩
theorem fa_Pw_163 : mFl R_Pw 163 0 11 false (.int) := ⟨R_Pw, T_Pw, 12, ty_Pw, fd_Pw, by decide, (mIn 256 (by decide +kernel) rfl), rfl, rfl, fun _ => rfl⟩
theorem fa_El_9 : mFl R_El 9 5 0 false (.boolean) := ⟨R_El, T_El, 6, ty_El, fd_El, by decide, (mIn 191 (by decide +kernel) rfl), rfl, rfl, fun _ => rfl⟩
theorem fa_El_15 : mFl R_El 15 5 1 false (.char) := ⟨R_El, T_El, 6, ty_El, fd_El, by decide, (mIn 194 (by decide +kernel) rfl), rfl, rfl, fun _ => rfl⟩
theorem fa_El_19 : mFl R_El 19 5 2 false (.boolean) := ⟨R_El, T_El, 6, ty_El, fd_El, by decide, (mIn 196 (by decide +kernel) rfl), rfl, rfl, fun _ => rfl⟩
theorem fa_El_22 : mFl R_El 22 5 3 false (.char) := ⟨R_El, T_El, 6, ty_El, fd_El, by decide, (mIn 200 (by decide +kernel) rfl), rfl, rfl, fun _ => rfl⟩
theorem fa_El_25 : mFl R_El 25 5 4 false (.boolean) := ⟨R_El, T_El, 6, ty_El, fd_El, by decide, (mIn 202 (by decide +kernel) rfl), rfl, rfl, fun _ => rfl⟩
theorem fa_El_28 : mFl R_El 28 5 5 false (.int) := ⟨R_El, T_El, 6, ty_El, fd_El, by decide, (mIn 204 (by decide +kernel) rfl), rfl, rfl, fun _ => rfl⟩
theorem fa_Pt_11 : mFl R_Pt 11 4 0 true (.array (.object "PatternWatch$Element")) := ⟨R_Pt, T_Pt, 6, ty_Pt, fd_Pt, by decide, (mIn 219 (by decide +kernel) rfl), rfl, rfl, fun _ => rfl⟩
theorem fa_Pt_18 : mFl R_Pt 18 4 1 true (.array .int) := ⟨R_Pt, T_Pt, 6, ty_Pt, fd_Pt, by decide, (mIn 222 (by decide +kernel) rfl), rfl, rfl, fun _ => rfl⟩
theorem fa_Pt_22 : mFl R_Pt 22 4 2 false (.int) := ⟨R_Pt, T_Pt, 6, ty_Pt, fd_Pt, by decide, (mIn 223 (by decide +kernel) rfl), rfl, rfl, fun _ => rfl⟩
theorem fa_Pt_26 : mFl R_Pt 26 4 3 false (.int) := ⟨R_Pt, T_Pt, 6, ty_Pt, fd_Pt, by decide, (mIn 224 (by decide +kernel) rfl), rfl, rfl, fun _ => rfl⟩
theorem fa_Pt_29 : mFl R_Pt 29 4 4 false (.boolean) := ⟨R_Pt, T_Pt, 6, ty_Pt, fd_Pt, by decide, (mIn 226 (by decide +kernel) rfl), rfl, rfl, fun _ => rfl⟩
theorem fa_Pt_33 : mFl R_Pt 33 4 5 false (.int) := ⟨R_Pt, T_Pt, 6, ty_Pt, fd_Pt, by decide, (mIn 229 (by decide +kernel) rfl), rfl, rfl, fun _ => rfl⟩
theorem fa_Rd_9 : mFl R_Rd 9 1 0 true (.array .char) := ⟨R_Rd, T_Rd, 3, ty_Rd, fd_Rd, by decide, (mIn 82 (by decide +kernel) rfl), rfl, rfl, fun _ => rfl⟩
theorem fa_Rd_15 : mFl R_Rd 15 1 1 false (.int) := ⟨R_Rd, T_Rd, 3, ty_Rd, fd_Rd, by decide, (mIn 83 (by decide +kernel) rfl), rfl, rfl, fun _ => rfl⟩
theorem fa_Rd_19 : mFl R_Rd 19 1 2 false (.int) := ⟨R_Rd, T_Rd, 3, ty_Rd, fd_Rd, by decide, (mIn 84 (by decide +kernel) rfl), rfl, rfl, fun _ => rfl⟩
theorem fa_Ru_9 : mFl R_Ru 9 6 0 true (.array .int) := ⟨R_Ru, T_Ru, 8, ty_Ru, fd_Ru, by decide, (mIn 107 (by decide +kernel) rfl), rfl, rfl, fun _ => rfl⟩
theorem fa_Ru_15 : mFl R_Ru 15 6 1 false (.int) := ⟨R_Ru, T_Ru, 8, ty_Ru, fd_Ru, by decide, (mIn 109 (by decide +kernel) rfl), rfl, rfl, fun _ => rfl⟩
theorem fa_Ru_24 : mFl R_Ru 24 6 3 false (.int) := ⟨R_Ru, T_Ru, 8, ty_Ru, fd_Ru, by decide, (mIn 113 (by decide +kernel) rfl), rfl, rfl, fun _ => rfl⟩
theorem fa_Ru_30 : mFl R_Ru 30 6 4 false (.int) := ⟨R_Ru, T_Ru, 8, ty_Ru, fd_Ru, by decide, (mIn 115 (by decide +kernel) rfl), rfl, rfl, fun _ => rfl⟩
theorem fa_Ru_36 : mFl R_Ru 36 6 5 false (.int) := ⟨R_Ru, T_Ru, 8, ty_Ru, fd_Ru, by decide, (mIn 117 (by decide +kernel) rfl), rfl, rfl, fun _ => rfl⟩
theorem fa_Ru_43 : mFl R_Ru 43 6 2 false (.int) := ⟨R_Ru, T_Ru, 8, ty_Ru, fd_Ru, by decide, (mIn 111 (by decide +kernel) rfl), rfl, rfl, fun _ => rfl⟩
theorem fa_Ru_46 : mFl R_Ru 46 6 6 false (.int) := ⟨R_Ru, T_Ru, 8, ty_Ru, fd_Ru, by decide, (mIn 119 (by decide +kernel) rfl), rfl, rfl, fun _ => rfl⟩
theorem fa_Ru_52 : mFl R_Ru 52 6 7 false (.int) := ⟨R_Ru, T_Ru, 8, ty_Ru, fd_Ru, by decide, (mIn 121 (by decide +kernel) rfl), rfl, rfl, fun _ => rfl⟩
theorem fa_RL_11 : mFl R_RL 11 2 0 true (.array (.object "PatternWatch$Run")) := ⟨R_RL, T_RL, 2, ty_RL, fd_RL, by decide, (mIn 141 (by decide +kernel) rfl), rfl, rfl, fun _ => rfl⟩
theorem fa_RL_18 : mFl R_RL 18 2 1 false (.int) := ⟨R_RL, T_RL, 2, ty_RL, fd_RL, by decide, (mIn 143 (by decide +kernel) rfl), rfl, rfl, fun _ => rfl⟩
theorem fa_Md_7 : mFl R_Md 7 7 2 true (.array .char) := ⟨R_Md, T_Md, 37, ty_Md, fd_Md, by decide, (mIn 619 (by decide +kernel) rfl), rfl, rfl, fun _ => rfl⟩
theorem fa_Md_13 : mFl R_Md 13 7 3 false (.int) := ⟨R_Md, T_Md, 37, ty_Md, fd_Md, by decide, (mIn 620 (by decide +kernel) rfl), rfl, rfl, fun _ => rfl⟩
theorem fa_Md_17 : mFl R_Md 17 7 6 true (.array .char) := ⟨R_Md, T_Md, 37, ty_Md, fd_Md, by decide, (mIn 623 (by decide +kernel) rfl), rfl, rfl, fun _ => rfl⟩
theorem fa_Md_20 : mFl R_Md 20 7 7 true (.array .boolean) := ⟨R_Md, T_Md, 37, ty_Md, fd_Md, by decide, (mIn 624 (by decide +kernel) rfl), rfl, rfl, fun _ => rfl⟩
theorem fa_Md_24 : mFl R_Md 24 7 8 true (.array .boolean) := ⟨R_Md, T_Md, 37, ty_Md, fd_Md, by decide, (mIn 625 (by decide +kernel) rfl), rfl, rfl, fun _ => rfl⟩
theorem fa_Md_27 : mFl R_Md 27 7 9 true (.array .int) := ⟨R_Md, T_Md, 37, ty_Md, fd_Md, by decide, (mIn 626 (by decide +kernel) rfl), rfl, rfl, fun _ => rfl⟩
theorem fa_Md_31 : mFl R_Md 31 7 10 true (.array .boolean) := ⟨R_Md, T_Md, 37, ty_Md, fd_Md, by decide, (mIn 627 (by decide +kernel) rfl), rfl, rfl, fun _ => rfl⟩
theorem fa_Md_34 : mFl R_Md 34 7 11 true (.array .int) := ⟨R_Md, T_Md, 37, ty_Md, fd_Md, by decide, (mIn 628 (by decide +kernel) rfl), rfl, rfl, fun _ => rfl⟩
theorem fa_Md_37 : mFl R_Md 37 7 17 true (.array .int) := ⟨R_Md, T_Md, 37, ty_Md, fd_Md, by decide, (mIn 634 (by decide +kernel) rfl), rfl, rfl, fun _ => rfl⟩
theorem fa_Md_40 : mFl R_Md 40 7 20 true (.array .char) := ⟨R_Md, T_Md, 37, ty_Md, fd_Md, by decide, (mIn 637 (by decide +kernel) rfl), rfl, rfl, fun _ => rfl⟩
theorem fa_Md_43 : mFl R_Md 43 7 21 true (.array .int) := ⟨R_Md, T_Md, 37, ty_Md, fd_Md, by decide, (mIn 638 (by decide +kernel) rfl), rfl, rfl, fun _ => rfl⟩
theorem fa_Md_46 : mFl R_Md 46 7 22 true (.array .int) := ⟨R_Md, T_Md, 37, ty_Md, fd_Md, by decide, (mIn 639 (by decide +kernel) rfl), rfl, rfl, fun _ => rfl⟩
theorem fa_Md_49 : mFl R_Md 49 7 23 true (.array .int) := ⟨R_Md, T_Md, 37, ty_Md, fd_Md, by decide, (mIn 640 (by decide +kernel) rfl), rfl, rfl, fun _ => rfl⟩
theorem fa_Md_52 : mFl R_Md 52 7 27 true (.array .int) := ⟨R_Md, T_Md, 37, ty_Md, fd_Md, by decide, (mIn 644 (by decide +kernel) rfl), rfl, rfl, fun _ => rfl⟩
theorem fa_Md_55 : mFl R_Md 55 7 28 true (.array .int) := ⟨R_Md, T_Md, 37, ty_Md, fd_Md, by decide, (mIn 645 (by decide +kernel) rfl), rfl, rfl, fun _ => rfl⟩
theorem fa_Md_58 : mFl R_Md 58 7 29 true (.array .int) := ⟨R_Md, T_Md, 37, ty_Md, fd_Md, by decide, (mIn 646 (by decide +kernel) rfl), rfl, rfl, fun _ => rfl⟩
theorem fa_Md_61 : mFl R_Md 61 7 31 true (.array .int) := ⟨R_Md, T_Md, 37, ty_Md, fd_Md, by decide, (mIn 648 (by decide +kernel) rfl), rfl, rfl, fun _ => rfl⟩
theorem fa_Md_64 : mFl R_Md 64 7 32 true (.array .int) := ⟨R_Md, T_Md, 37, ty_Md, fd_Md, by decide, (mIn 649 (by decide +kernel) rfl), rfl, rfl, fun _ => rfl⟩
theorem fa_Md_67 : mFl R_Md 67 7 0 false (.int) := ⟨R_Md, T_Md, 37, ty_Md, fd_Md, by decide, (mIn 617 (by decide +kernel) rfl), rfl, rfl, fun _ => rfl⟩
theorem fa_Md_70 : mFl R_Md 70 7 1 false (.int) := ⟨R_Md, T_Md, 37, ty_Md, fd_Md, by decide, (mIn 618 (by decide +kernel) rfl), rfl, rfl, fun _ => rfl⟩
theorem fa_Md_73 : mFl R_Md 73 7 5 false (.int) := ⟨R_Md, T_Md, 37, ty_Md, fd_Md, by decide, (mIn 622 (by decide +kernel) rfl), rfl, rfl, fun _ => rfl⟩
theorem fa_Md_76 : mFl R_Md 76 7 13 false (.boolean) := ⟨R_Md, T_Md, 37, ty_Md, fd_Md, by decide, (mIn 630 (by decide +kernel) rfl), rfl, rfl, fun _ => rfl⟩
theorem fa_Md_98 : mFl R_Md 98 7 15 false (.int) := ⟨R_Md, T_Md, 37, ty_Md, fd_Md, by decide, (mIn 632 (by decide +kernel) rfl), rfl, rfl, fun _ => rfl⟩
theorem fa_Md_105 : mFl R_Md 105 7 4 false (.int) := ⟨R_Md, T_Md, 37, ty_Md, fd_Md, by decide, (mIn 621 (by decide +kernel) rfl), rfl, rfl, fun _ => rfl⟩
theorem fa_Md_108 : mFl R_Md 108 7 16 false (.int) := ⟨R_Md, T_Md, 37, ty_Md, fd_Md, by decide, (mIn 633 (by decide +kernel) rfl), rfl, rfl, fun _ => rfl⟩
theorem fa_Md_111 : mFl R_Md 111 7 12 false (.boolean) := ⟨R_Md, T_Md, 37, ty_Md, fd_Md, by decide, (mIn 629 (by decide +kernel) rfl), rfl, rfl, fun _ => rfl⟩
theorem fa_Md_114 : mFl R_Md 114 7 14 false (.int) := ⟨R_Md, T_Md, 37, ty_Md, fd_Md, by decide, (mIn 631 (by decide +kernel) rfl), rfl, rfl, fun _ => rfl⟩
theorem fa_Md_117 : mFl R_Md 117 7 18 false (.int) := ⟨R_Md, T_Md, 37, ty_Md, fd_Md, by decide, (mIn 635 (by decide +kernel) rfl), rfl, rfl, fun _ => rfl⟩
theorem fa_Md_120 : mFl R_Md 120 7 19 false (.int) := ⟨R_Md, T_Md, 37, ty_Md, fd_Md, by decide, (mIn 636 (by decide +kernel) rfl), rfl, rfl, fun _ => rfl⟩
theorem fa_Md_123 : mFl R_Md 123 7 24 false (.int) := ⟨R_Md, T_Md, 37, ty_Md, fd_Md, by decide, (mIn 641 (by decide +kernel) rfl), rfl, rfl, fun _ => rfl⟩
theorem fa_Md_126 : mFl R_Md 126 7 30 false (.int) := ⟨R_Md, T_Md, 37, ty_Md, fd_Md, by decide, (mIn 647 (by decide +kernel) rfl), rfl, rfl, fun _ => rfl⟩
theorem fa_Md_129 : mFl R_Md 129 7 33 false (.int) := ⟨R_Md, T_Md, 37, ty_Md, fd_Md, by decide, (mIn 650 (by decide +kernel) rfl), rfl, rfl, fun _ => rfl⟩
theorem fa_Md_132 : mFl R_Md 132 7 34 false (.int) := ⟨R_Md, T_Md, 37, ty_Md, fd_Md, by decide, (mIn 651 (by decide +kernel) rfl), rfl, rfl, fun _ => rfl⟩
theorem fa_Md_135 : mFl R_Md 135 7 35 false (.int) := ⟨R_Md, T_Md, 37, ty_Md, fd_Md, by decide, (mIn 652 (by decide +kernel) rfl), rfl, rfl, fun _ => rfl⟩
theorem fa_Md_138 : mFl R_Md 138 7 36 false (.int) := ⟨R_Md, T_Md, 37, ty_Md, fd_Md, by decide, (mIn 653 (by decide +kernel) rfl), rfl, rfl, fun _ => rfl⟩
theorem fa_Md_152 : mFl R_Md 152 7 25 false (.int) := ⟨R_Md, T_Md, 37, ty_Md, fd_Md, by decide, (mIn 642 (by decide +kernel) rfl), rfl, rfl, fun _ => rfl⟩
theorem fa_Md_166 : mFl R_Md 166 7 26 false (.int) := ⟨R_Md, T_Md, 37, ty_Md, fd_Md, by decide, (mIn 643 (by decide +kernel) rfl), rfl, rfl, fun _ => rfl⟩
theorem fa_Pw_58 : mFn R_Pw 58 1 2 false (.int) := ⟨R_Rd, T_Rd, 3, ty_Rd, "PatternWatch", fd_Rd, by decide, by decide +kernel, rfl, rfl⟩
theorem fa_Pw_71 : mFn R_Pw 71 4 3 false (.int) := ⟨R_Pt, T_Pt, 6, ty_Pt, "PatternWatch", fd_Pt, by decide, by decide +kernel, rfl, rfl⟩
theorem fa_Pw_91 : mFn R_Pw 91 3 0 false (.int) := ⟨R_Ev, T_Ev, 5, ty_Ev, "PatternWatch", fd_Ev, by decide, by decide +kernel, rfl, rfl⟩
theorem fa_Pw_94 : mFn R_Pw 94 3 1 false (.char) := ⟨R_Ev, T_Ev, 5, ty_Ev, "PatternWatch", fd_Ev, by decide, by decide +kernel, rfl, rfl⟩
theorem fa_Pw_98 : mFn R_Pw 98 3 2 false (.int) := ⟨R_Ev, T_Ev, 5, ty_Ev, "PatternWatch", fd_Ev, by decide, by decide +kernel, rfl, rfl⟩
theorem fa_Pw_101 : mFn R_Pw 101 3 3 false (.int) := ⟨R_Ev, T_Ev, 5, ty_Ev, "PatternWatch", fd_Ev, by decide, by decide +kernel, rfl, rfl⟩
theorem fa_Pw_104 : mFn R_Pw 104 3 4 false (.int) := ⟨R_Ev, T_Ev, 5, ty_Ev, "PatternWatch", fd_Ev, by decide, by decide +kernel, rfl, rfl⟩
theorem fa_Pw_119 : mFn R_Pw 119 2 1 false (.int) := ⟨R_RL, T_RL, 2, ty_RL, "PatternWatch", fd_RL, by decide, by decide +kernel, rfl, rfl⟩
theorem fa_Pw_131 : mFn R_Pw 131 2 0 true (.array (.object "PatternWatch$Run")) := ⟨R_RL, T_RL, 2, ty_RL, "PatternWatch", fd_RL, by decide, by decide +kernel, rfl, rfl⟩
theorem fa_Pw_135 : mFn R_Pw 135 6 1 false (.int) := ⟨R_Ru, T_Ru, 8, ty_Ru, "PatternWatch", fd_Ru, by decide, by decide +kernel, rfl, rfl⟩
theorem fa_Pw_140 : mFn R_Pw 140 6 0 true (.array .int) := ⟨R_Ru, T_Ru, 8, ty_Ru, "PatternWatch", fd_Ru, by decide, by decide +kernel, rfl, rfl⟩
theorem fa_Pw_146 : mFn R_Pw 146 6 2 false (.int) := ⟨R_Ru, T_Ru, 8, ty_Ru, "PatternWatch", fd_Ru, by decide, by decide +kernel, rfl, rfl⟩
theorem fa_Pw_149 : mFn R_Pw 149 6 3 false (.int) := ⟨R_Ru, T_Ru, 8, ty_Ru, "PatternWatch", fd_Ru, by decide, by decide +kernel, rfl, rfl⟩
theorem fa_Pw_152 : mFn R_Pw 152 6 6 false (.int) := ⟨R_Ru, T_Ru, 8, ty_Ru, "PatternWatch", fd_Ru, by decide, by decide +kernel, rfl, rfl⟩
theorem fa_Pw_166 : mFn R_Pw 166 4 5 false (.int) := ⟨R_Pt, T_Pt, 6, ty_Pt, "PatternWatch", fd_Pt, by decide, by decide +kernel, rfl, rfl⟩
theorem fa_Pw_179 : mFn R_Pw 179 6 5 false (.int) := ⟨R_Ru, T_Ru, 8, ty_Ru, "PatternWatch", fd_Ru, by decide, by decide +kernel, rfl, rfl⟩
theorem fa_Pw_211 : mFn R_Pw 211 4 0 true (.array (.object "PatternWatch$Element")) := ⟨R_Pt, T_Pt, 6, ty_Pt, "PatternWatch", fd_Pt, by decide, by decide +kernel, rfl, rfl⟩
theorem fa_Pw_215 : mFn R_Pw 215 5 2 false (.boolean) := ⟨R_El, T_El, 6, ty_El, "PatternWatch", fd_El, by decide, by decide +kernel, rfl, rfl⟩
theorem fa_Pw_221 : mFn R_Pw 221 6 7 false (.int) := ⟨R_Ru, T_Ru, 8, ty_Ru, "PatternWatch", fd_Ru, by decide, by decide +kernel, rfl, rfl⟩
theorem fa_Pw_228 : mFn R_Pw 228 4 4 false (.boolean) := ⟨R_Pt, T_Pt, 6, ty_Pt, "PatternWatch", fd_Pt, by decide, by decide +kernel, rfl, rfl⟩
theorem fa_Pw_231 : mFn R_Pw 231 6 4 false (.int) := ⟨R_Ru, T_Ru, 8, ty_Ru, "PatternWatch", fd_Ru, by decide, by decide +kernel, rfl, rfl⟩
theorem fa_El_32 : mFn R_El 32 3 1 false (.char) := ⟨R_Ev, T_Ev, 5, ty_Ev, "PatternWatch", fd_Ev, by decide, by decide +kernel, rfl, rfl⟩
theorem fa_El_35 : mFn R_El 35 3 3 false (.int) := ⟨R_Ev, T_Ev, 5, ty_Ev, "PatternWatch", fd_Ev, by decide, by decide +kernel, rfl, rfl⟩
theorem fa_Pt_36 : mFn R_Pt 36 5 0 false (.boolean) := ⟨R_El, T_El, 6, ty_El, "PatternWatch", fd_El, by decide, by decide +kernel, rfl, rfl⟩
theorem fa_Pt_39 : mFn R_Pt 39 5 2 false (.boolean) := ⟨R_El, T_El, 6, ty_El, "PatternWatch", fd_El, by decide, by decide +kernel, rfl, rfl⟩
theorem fa_Rd_31 : mFn R_Rd 31 4 0 true (.array (.object "PatternWatch$Element")) := ⟨R_Pt, T_Pt, 6, ty_Pt, "PatternWatch", fd_Pt, by decide, by decide +kernel, rfl, rfl⟩
theorem fa_Rd_56 : mFn R_Rd 56 5 0 false (.boolean) := ⟨R_El, T_El, 6, ty_El, "PatternWatch", fd_El, by decide, by decide +kernel, rfl, rfl⟩
theorem fa_Rd_63 : mFn R_Rd 63 5 1 false (.char) := ⟨R_El, T_El, 6, ty_El, "PatternWatch", fd_El, by decide, by decide +kernel, rfl, rfl⟩
theorem fa_Rd_67 : mFn R_Rd 67 5 2 false (.boolean) := ⟨R_El, T_El, 6, ty_El, "PatternWatch", fd_El, by decide, by decide +kernel, rfl, rfl⟩
theorem fa_Rd_76 : mFn R_Rd 76 5 3 false (.char) := ⟨R_El, T_El, 6, ty_El, "PatternWatch", fd_El, by decide, by decide +kernel, rfl, rfl⟩
theorem fa_Rd_83 : mFn R_Rd 83 5 4 false (.boolean) := ⟨R_El, T_El, 6, ty_El, "PatternWatch", fd_El, by decide, by decide +kernel, rfl, rfl⟩
theorem fa_Rd_90 : mFn R_Rd 90 5 5 false (.int) := ⟨R_El, T_El, 6, ty_El, "PatternWatch", fd_El, by decide, by decide +kernel, rfl, rfl⟩
theorem fa_Rd_93 : mFn R_Rd 93 4 4 false (.boolean) := ⟨R_Pt, T_Pt, 6, ty_Pt, "PatternWatch", fd_Pt, by decide, by decide +kernel, rfl, rfl⟩
theorem fa_Rd_96 : mFn R_Rd 96 4 5 false (.int) := ⟨R_Pt, T_Pt, 6, ty_Pt, "PatternWatch", fd_Pt, by decide, by decide +kernel, rfl, rfl⟩
theorem fa_Ru_19 : mFn R_Ru 19 3 0 false (.int) := ⟨R_Ev, T_Ev, 5, ty_Ev, "PatternWatch", fd_Ev, by decide, by decide +kernel, rfl, rfl⟩
theorem fa_Ru_27 : mFn R_Ru 27 3 2 false (.int) := ⟨R_Ev, T_Ev, 5, ty_Ev, "PatternWatch", fd_Ev, by decide, by decide +kernel, rfl, rfl⟩
theorem fa_Ru_33 : mFn R_Ru 33 3 4 false (.int) := ⟨R_Ev, T_Ev, 5, ty_Ev, "PatternWatch", fd_Ev, by decide, by decide +kernel, rfl, rfl⟩
theorem fa_Ru_49 : mFn R_Ru 49 3 3 false (.int) := ⟨R_Ev, T_Ev, 5, ty_Ev, "PatternWatch", fd_Ev, by decide, by decide +kernel, rfl, rfl⟩
theorem lq_Rd_init : mLk y_Rd_init 0 := ⟨⟨by decide +kernel, by decide +kernel⟩, by decide +kernel, (mIn 54 (by decide +kernel) rfl)⟩
theorem lk_Pw_11 : mLkIN R_Pw 11 y_Rd_init 0 := ⟨lq_Rd_init, ⟨"PatternWatch", by decide +kernel⟩, rfl, (mIn 79 (by decide +kernel) rfl)⟩
theorem lq_RL_init : mLk y_RL_init 0 := ⟨⟨by decide +kernel, by decide +kernel⟩, by decide +kernel, (mIn 55 (by decide +kernel) rfl)⟩
theorem lk_Pw_18 : mLkIN R_Pw 18 y_RL_init 0 := ⟨lq_RL_init, ⟨"PatternWatch", by decide +kernel⟩, rfl, (mIn 97 (by decide +kernel) rfl)⟩
theorem lq_Ev_init : mLk y_Ev_init 0 := ⟨⟨by decide +kernel, by decide +kernel⟩, by decide +kernel, (mIn 57 (by decide +kernel) rfl)⟩
theorem lk_Pw_28 : mLkIN R_Pw 28 y_Ev_init 0 := ⟨lq_Ev_init, ⟨"PatternWatch", by decide +kernel⟩, rfl, (mIn 153 (by decide +kernel) rfl)⟩
theorem lq_Pt_init : mLk y_Pt_init 0 := ⟨⟨by decide +kernel, by decide +kernel⟩, by decide +kernel, (mIn 58 (by decide +kernel) rfl)⟩
theorem lk_Pw_35 : mLkIN R_Pw 35 y_Pt_init 0 := ⟨lq_Pt_init, ⟨"PatternWatch", by decide +kernel⟩, rfl, (mIn 181 (by decide +kernel) rfl)⟩
theorem lq_Rd_put : mLk y_Rd_put 1 := ⟨⟨by decide +kernel, by decide +kernel⟩, by decide +kernel, (mIn 54 (by decide +kernel) rfl)⟩
theorem lk_Pw_47 : mLkVN R_Pw 47 y_Rd_put 1 := ⟨lq_Rd_put, ⟨"PatternWatch", by decide +kernel⟩, (mIn 288 (by decide +kernel) rfl), (mIn 0 (by decide +kernel) rfl)⟩
theorem lq_Rd_empty : mLk y_Rd_empty 0 := ⟨⟨by decide +kernel, by decide +kernel⟩, by decide +kernel, (mIn 54 (by decide +kernel) rfl)⟩
theorem lk_Pw_51 : mLkVN R_Pw 51 y_Rd_empty 0 := ⟨lq_Rd_empty, ⟨"PatternWatch", by decide +kernel⟩, (mIn 296 (by decide +kernel) rfl), (mIn 1 (by decide +kernel) rfl)⟩
theorem lq_Rd_readInto : mLk y_Rd_readInto 1 := ⟨⟨by decide +kernel, by decide +kernel⟩, by decide +kernel, (mIn 54 (by decide +kernel) rfl)⟩
theorem lk_Pw_54 : mLkVN R_Pw 54 y_Rd_readInto 1 := ⟨lq_Rd_readInto, ⟨"PatternWatch", by decide +kernel⟩, (mIn 316 (by decide +kernel) rfl), (mIn 2 (by decide +kernel) rfl)⟩
theorem lq_Pw_startAnew : mLk y_Pw_startAnew 0 := ⟨⟨by decide +kernel, by decide +kernel⟩, by decide +kernel, (mIn 53 (by decide +kernel) rfl)⟩
theorem lk_Pw_68 : mLkV R_Pw 68 y_Pw_startAnew 0 := ⟨lq_Pw_startAnew, (mIn 445 (by decide +kernel) rfl), (mIn 447 (by decide +kernel) rfl), (mIn 18 (by decide +kernel) rfl)⟩
theorem lq_Pw_isLetter : mLk y_Pw_isLetter 1 := ⟨⟨by decide +kernel, by decide +kernel⟩, by decide +kernel, (mIn 53 (by decide +kernel) rfl)⟩
theorem lk_Pw_79 : mLkS R_Pw 79 y_Pw_isLetter 1 := ⟨lq_Pw_isLetter, (mIn 477 (by decide +kernel) rfl), (mIn 335 (by decide +kernel) rfl)⟩
theorem lq_Pw_isWithin : mLk y_Pw_isWithin 3 := ⟨⟨by decide +kernel, by decide +kernel⟩, by decide +kernel, (mIn 53 (by decide +kernel) rfl)⟩
theorem lk_Pw_82 : mLkS R_Pw 82 y_Pw_isWithin 3 := ⟨lq_Pw_isWithin, (mIn 478 (by decide +kernel) rfl), (mIn 479 (by decide +kernel) rfl)⟩
theorem lq_RL_clear : mLk y_RL_clear 0 := ⟨⟨by decide +kernel, by decide +kernel⟩, by decide +kernel, (mIn 55 (by decide +kernel) rfl)⟩
theorem lk_Pw_107 : mLkVN R_Pw 107 y_RL_clear 0 := ⟨lq_RL_clear, ⟨"PatternWatch", by decide +kernel⟩, (mIn 451 (by decide +kernel) rfl), (mIn 19 (by decide +kernel) rfl)⟩
theorem lq_Pw_lookAtRuns : mLk y_Pw_lookAtRuns 0 := ⟨⟨by decide +kernel, by decide +kernel⟩, by decide +kernel, (mIn 53 (by decide +kernel) rfl)⟩
theorem lk_Pw_110 : mLkV R_Pw 110 y_Pw_lookAtRuns 0 := ⟨lq_Pw_lookAtRuns, (mIn 482 (by decide +kernel) rfl), (mIn 484 (by decide +kernel) rfl), (mIn 20 (by decide +kernel) rfl)⟩
theorem lq_Pw_beginRun : mLk y_Pw_beginRun 0 := ⟨⟨by decide +kernel, by decide +kernel⟩, by decide +kernel, (mIn 53 (by decide +kernel) rfl)⟩
theorem lk_Pw_113 : mLkV R_Pw 113 y_Pw_beginRun 0 := ⟨lq_Pw_beginRun, (mIn 552 (by decide +kernel) rfl), (mIn 554 (by decide +kernel) rfl), (mIn 36 (by decide +kernel) rfl)⟩
theorem lq_RL_has : mLk y_RL_has 1 := ⟨⟨by decide +kernel, by decide +kernel⟩, by decide +kernel, (mIn 55 (by decide +kernel) rfl)⟩
theorem lk_Pw_122 : mLkVN R_Pw 122 y_RL_has 1 := ⟨lq_RL_has, ⟨"PatternWatch", by decide +kernel⟩, (mIn 549 (by decide +kernel) rfl), (mIn 35 (by decide +kernel) rfl)⟩
theorem lq_Pw_staysInList : mLk y_Pw_staysInList 1 := ⟨⟨by decide +kernel, by decide +kernel⟩, by decide +kernel, (mIn 53 (by decide +kernel) rfl)⟩
theorem lk_Pw_171 : mLkV R_Pw 171 y_Pw_staysInList 1 := ⟨lq_Pw_staysInList, (mIn 486 (by decide +kernel) rfl), (mIn 488 (by decide +kernel) rfl), (mIn 21 (by decide +kernel) rfl)⟩
theorem lq_RL_remove : mLk y_RL_remove 1 := ⟨⟨by decide +kernel, by decide +kernel⟩, by decide +kernel, (mIn 55 (by decide +kernel) rfl)⟩
theorem lk_Pw_175 : mLkVN R_Pw 175 y_RL_remove 1 := ⟨lq_RL_remove, ⟨"PatternWatch", by decide +kernel⟩, (mIn 545 (by decide +kernel) rfl), (mIn 34 (by decide +kernel) rfl)⟩
theorem lq_Pw_isBarred : mLk y_Pw_isBarred 1 := ⟨⟨by decide +kernel, by decide +kernel⟩, by decide +kernel, (mIn 53 (by decide +kernel) rfl)⟩
theorem lk_Pw_182 : mLkV R_Pw 182 y_Pw_isBarred 1 := ⟨lq_Pw_isBarred, (mIn 490 (by decide +kernel) rfl), (mIn 492 (by decide +kernel) rfl), (mIn 22 (by decide +kernel) rfl)⟩
theorem lq_Pt_stepElement : mLk y_Pt_stepElement 1 := ⟨⟨by decide +kernel, by decide +kernel⟩, by decide +kernel, (mIn 58 (by decide +kernel) rfl)⟩
theorem lk_Pw_185 : mLkVN R_Pw 185 y_Pt_stepElement 1 := ⟨lq_Pt_stepElement, ⟨"PatternWatch", by decide +kernel⟩, (mIn 509 (by decide +kernel) rfl), (mIn 26 (by decide +kernel) rfl)⟩
theorem lq_Pw_fits : mLk y_Pw_fits 2 := ⟨⟨by decide +kernel, by decide +kernel⟩, by decide +kernel, (mIn 53 (by decide +kernel) rfl)⟩
theorem lk_Pw_189 : mLkV R_Pw 189 y_Pw_fits 2 := ⟨lq_Pw_fits, (mIn 499 (by decide +kernel) rfl), (mIn 501 (by decide +kernel) rfl), (mIn 24 (by decide +kernel) rfl)⟩
theorem lq_Pw_mayStay : mLk y_Pw_mayStay 1 := ⟨⟨by decide +kernel, by decide +kernel⟩, by decide +kernel, (mIn 53 (by decide +kernel) rfl)⟩
theorem lk_Pw_193 : mLkV R_Pw 193 y_Pw_mayStay 1 := ⟨lq_Pw_mayStay, (mIn 512 (by decide +kernel) rfl), (mIn 514 (by decide +kernel) rfl), (mIn 27 (by decide +kernel) rfl)⟩
theorem lq_Pt_isLastStep : mLk y_Pt_isLastStep 1 := ⟨⟨by decide +kernel, by decide +kernel⟩, by decide +kernel, (mIn 58 (by decide +kernel) rfl)⟩
theorem lk_Pw_196 : mLkVN R_Pw 196 y_Pt_isLastStep 1 := ⟨lq_Pt_isLastStep, ⟨"PatternWatch", by decide +kernel⟩, (mIn 518 (by decide +kernel) rfl), (mIn 28 (by decide +kernel) rfl)⟩
theorem lq_Pw_goOnApart : mLk y_Pw_goOnApart 2 := ⟨⟨by decide +kernel, by decide +kernel⟩, by decide +kernel, (mIn 53 (by decide +kernel) rfl)⟩
theorem lk_Pw_199 : mLkV R_Pw 199 y_Pw_goOnApart 2 := ⟨lq_Pw_goOnApart, (mIn 520 (by decide +kernel) rfl), (mIn 522 (by decide +kernel) rfl), (mIn 29 (by decide +kernel) rfl)⟩
theorem lq_Ru_take : mLk y_Ru_take 2 := ⟨⟨by decide +kernel, by decide +kernel⟩, by decide +kernel, (mIn 56 (by decide +kernel) rfl)⟩
theorem lk_Pw_203 : mLkVN R_Pw 203 y_Ru_take 2 := ⟨lq_Ru_take, ⟨"PatternWatch", by decide +kernel⟩, (mIn 541 (by decide +kernel) rfl), (mIn 33 (by decide +kernel) rfl)⟩
theorem lq_Pt_stepPlace : mLk y_Pt_stepPlace 1 := ⟨⟨by decide +kernel, by decide +kernel⟩, by decide +kernel, (mIn 58 (by decide +kernel) rfl)⟩
theorem lk_Pw_207 : mLkVN R_Pw 207 y_Pt_stepPlace 1 := ⟨lq_Pt_stepPlace, ⟨"PatternWatch", by decide +kernel⟩, (mIn 496 (by decide +kernel) rfl), (mIn 23 (by decide +kernel) rfl)⟩
theorem lq_El_admits : mLk y_El_admits 2 := ⟨⟨by decide +kernel, by decide +kernel⟩, by decide +kernel, (mIn 59 (by decide +kernel) rfl)⟩
theorem lk_Pw_224 : mLkVN R_Pw 224 y_El_admits 2 := ⟨lq_El_admits, ⟨"PatternWatch", by decide +kernel⟩, (mIn 505 (by decide +kernel) rfl), (mIn 25 (by decide +kernel) rfl)⟩
theorem lq_Pw_rowForStep : mLk y_Pw_rowForStep 1 := ⟨⟨by decide +kernel, by decide +kernel⟩, by decide +kernel, (mIn 53 (by decide +kernel) rfl)⟩
theorem lk_Pw_234 : mLkV R_Pw 234 y_Pw_rowForStep 1 := ⟨lq_Pw_rowForStep, (mIn 524 (by decide +kernel) rfl), (mIn 526 (by decide +kernel) rfl), (mIn 30 (by decide +kernel) rfl)⟩
theorem lq_Ru_copyFrom : mLk y_Ru_copyFrom 1 := ⟨⟨by decide +kernel, by decide +kernel⟩, by decide +kernel, (mIn 56 (by decide +kernel) rfl)⟩
theorem lk_Pw_238 : mLkVN R_Pw 238 y_Ru_copyFrom 1 := ⟨lq_Ru_copyFrom, ⟨"PatternWatch", by decide +kernel⟩, (mIn 534 (by decide +kernel) rfl), (mIn 32 (by decide +kernel) rfl)⟩
theorem lq_Ru_begin : mLk y_Ru_begin 1 := ⟨⟨by decide +kernel, by decide +kernel⟩, by decide +kernel, (mIn 56 (by decide +kernel) rfl)⟩
theorem lk_Pw_242 : mLkVN R_Pw 242 y_Ru_begin 1 := ⟨lq_Ru_begin, ⟨"PatternWatch", by decide +kernel⟩, (mIn 558 (by decide +kernel) rfl), (mIn 37 (by decide +kernel) rfl)⟩
theorem lq_RL_add : mLk y_RL_add 0 := ⟨⟨by decide +kernel, by decide +kernel⟩, by decide +kernel, (mIn 55 (by decide +kernel) rfl)⟩
theorem lk_Pw_246 : mLkVN R_Pw 246 y_RL_add 0 := ⟨lq_RL_add, ⟨"PatternWatch", by decide +kernel⟩, (mIn 530 (by decide +kernel) rfl), (mIn 31 (by decide +kernel) rfl)⟩
theorem lq_El_init : mLk y_El_init 0 := ⟨⟨by decide +kernel, by decide +kernel⟩, by decide +kernel, (mIn 59 (by decide +kernel) rfl)⟩
theorem lk_Pt_17 : mLkIN R_Pt 17 y_El_init 0 := ⟨lq_El_init, ⟨"PatternWatch", by decide +kernel⟩, rfl, (mIn 188 (by decide +kernel) rfl)⟩
theorem lk_Pt_42 : mLkSN R_Pt 42 y_Pw_isWithin 3 := ⟨lq_Pw_isWithin, ⟨"PatternWatch", by decide +kernel⟩, (mIn 479 (by decide +kernel) rfl)⟩
theorem lk_Pt_46 : mLkV R_Pt 46 y_Pt_stepPlace 1 := ⟨lq_Pt_stepPlace, (mIn 511 (by decide +kernel) rfl), (mIn 496 (by decide +kernel) rfl), (mIn 23 (by decide +kernel) rfl)⟩
theorem lq_Pt_clear : mLk y_Pt_clear 0 := ⟨⟨by decide +kernel, by decide +kernel⟩, by decide +kernel, (mIn 58 (by decide +kernel) rfl)⟩
theorem lk_Rd_22 : mLkVN R_Rd 22 y_Pt_clear 0 := ⟨lq_Pt_clear, ⟨"PatternWatch", by decide +kernel⟩, (mIn 320 (by decide +kernel) rfl), (mIn 3 (by decide +kernel) rfl)⟩
theorem lq_Rd_isElementAhead : mLk y_Rd_isElementAhead 0 := ⟨⟨by decide +kernel, by decide +kernel⟩, by decide +kernel, (mIn 54 (by decide +kernel) rfl)⟩
theorem lk_Rd_27 : mLkV R_Rd 27 y_Rd_isElementAhead 0 := ⟨lq_Rd_isElementAhead, (mIn 322 (by decide +kernel) rfl), (mIn 324 (by decide +kernel) rfl), (mIn 4 (by decide +kernel) rfl)⟩
theorem lq_Rd_readElement : mLk y_Rd_readElement 2 := ⟨⟨by decide +kernel, by decide +kernel⟩, by decide +kernel, (mIn 54 (by decide +kernel) rfl)⟩
theorem lk_Rd_35 : mLkV R_Rd 35 y_Rd_readElement 2 := ⟨lq_Rd_readElement, (mIn 337 (by decide +kernel) rfl), (mIn 339 (by decide +kernel) rfl), (mIn 7 (by decide +kernel) rfl)⟩
theorem lq_Pt_countElement : mLk y_Pt_countElement 0 := ⟨⟨by decide +kernel, by decide +kernel⟩, by decide +kernel, (mIn 58 (by decide +kernel) rfl)⟩
theorem lk_Rd_39 : mLkVN R_Rd 39 y_Pt_countElement 0 := ⟨lq_Pt_countElement, ⟨"PatternWatch", by decide +kernel⟩, (mIn 367 (by decide +kernel) rfl), (mIn 14 (by decide +kernel) rfl)⟩
theorem lq_Pt_mayEnd : mLk y_Pt_mayEnd 0 := ⟨⟨by decide +kernel, by decide +kernel⟩, by decide +kernel, (mIn 58 (by decide +kernel) rfl)⟩
theorem lk_Rd_42 : mLkVN R_Rd 42 y_Pt_mayEnd 0 := ⟨lq_Pt_mayEnd, ⟨"PatternWatch", by decide +kernel⟩, (mIn 371 (by decide +kernel) rfl), (mIn 15 (by decide +kernel) rfl)⟩
theorem lq_Rd_readEnd : mLk y_Rd_readEnd 1 := ⟨⟨by decide +kernel, by decide +kernel⟩, by decide +kernel, (mIn 54 (by decide +kernel) rfl)⟩
theorem lk_Rd_45 : mLkV R_Rd 45 y_Rd_readEnd 1 := ⟨lq_Rd_readEnd, (mIn 373 (by decide +kernel) rfl), (mIn 375 (by decide +kernel) rfl), (mIn 16 (by decide +kernel) rfl)⟩
theorem lq_El_clear : mLk y_El_clear 0 := ⟨⟨by decide +kernel, by decide +kernel⟩, by decide +kernel, (mIn 59 (by decide +kernel) rfl)⟩
theorem lk_Rd_49 : mLkVN R_Rd 49 y_El_clear 0 := ⟨lq_El_clear, ⟨"PatternWatch", by decide +kernel⟩, (mIn 343 (by decide +kernel) rfl), (mIn 8 (by decide +kernel) rfl)⟩
theorem lq_Rd_ahead : mLk y_Rd_ahead 0 := ⟨⟨by decide +kernel, by decide +kernel⟩, by decide +kernel, (mIn 54 (by decide +kernel) rfl)⟩
theorem lk_Rd_52 : mLkV R_Rd 52 y_Rd_ahead 0 := ⟨lq_Rd_ahead, (mIn 326 (by decide +kernel) rfl), (mIn 328 (by decide +kernel) rfl), (mIn 5 (by decide +kernel) rfl)⟩
theorem lq_Rd_isKindAhead : mLk y_Rd_isKindAhead 0 := ⟨⟨by decide +kernel, by decide +kernel⟩, by decide +kernel, (mIn 54 (by decide +kernel) rfl)⟩
theorem lk_Rd_60 : mLkV R_Rd 60 y_Rd_isKindAhead 0 := ⟨lq_Rd_isKindAhead, (mIn 330 (by decide +kernel) rfl), (mIn 332 (by decide +kernel) rfl), (mIn 6 (by decide +kernel) rfl)⟩
theorem lq_Rd_isTestAhead : mLk y_Rd_isTestAhead 0 := ⟨⟨by decide +kernel, by decide +kernel⟩, by decide +kernel, (mIn 54 (by decide +kernel) rfl)⟩
theorem lk_Rd_70 : mLkV R_Rd 70 y_Rd_isTestAhead 0 := ⟨lq_Rd_isTestAhead, (mIn 345 (by decide +kernel) rfl), (mIn 347 (by decide +kernel) rfl), (mIn 9 (by decide +kernel) rfl)⟩
theorem lq_Rd_readCondition : mLk y_Rd_readCondition 2 := ⟨⟨by decide +kernel, by decide +kernel⟩, by decide +kernel, (mIn 54 (by decide +kernel) rfl)⟩
theorem lk_Rd_73 : mLkV R_Rd 73 y_Rd_readCondition 2 := ⟨lq_Rd_readCondition, (mIn 349 (by decide +kernel) rfl), (mIn 351 (by decide +kernel) rfl), (mIn 10 (by decide +kernel) rfl)⟩
theorem lq_Rd_passes : mLk y_Rd_passes 1 := ⟨⟨by decide +kernel, by decide +kernel⟩, by decide +kernel, (mIn 54 (by decide +kernel) rfl)⟩
theorem lk_Rd_79 : mLkV R_Rd 79 y_Rd_passes 1 := ⟨lq_Rd_passes, (mIn 353 (by decide +kernel) rfl), (mIn 355 (by decide +kernel) rfl), (mIn 11 (by decide +kernel) rfl)⟩
theorem lq_Rd_readDigits : mLk y_Rd_readDigits 1 := ⟨⟨by decide +kernel, by decide +kernel⟩, by decide +kernel, (mIn 54 (by decide +kernel) rfl)⟩
theorem lk_Rd_86 : mLkV R_Rd 86 y_Rd_readDigits 1 := ⟨lq_Rd_readDigits, (mIn 357 (by decide +kernel) rfl), (mIn 359 (by decide +kernel) rfl), (mIn 12 (by decide +kernel) rfl)⟩
theorem lq_Rd_isDigitAhead : mLk y_Rd_isDigitAhead 0 := ⟨⟨by decide +kernel, by decide +kernel⟩, by decide +kernel, (mIn 54 (by decide +kernel) rfl)⟩
theorem lk_Rd_99 : mLkV R_Rd 99 y_Rd_isDigitAhead 0 := ⟨lq_Rd_isDigitAhead, (mIn 361 (by decide +kernel) rfl), (mIn 363 (by decide +kernel) rfl), (mIn 13 (by decide +kernel) rfl)⟩
theorem lk_Rd_102 : mLkSN R_Rd 102 y_Pw_isLetter 1 := ⟨lq_Pw_isLetter, ⟨"PatternWatch", by decide +kernel⟩, (mIn 335 (by decide +kernel) rfl)⟩
theorem lk_Ru_39 : mLkV R_Ru 39 y_Ru_take 2 := ⟨lq_Ru_take, (mIn 560 (by decide +kernel) rfl), (mIn 541 (by decide +kernel) rfl), (mIn 33 (by decide +kernel) rfl)⟩
theorem lq_Ru_init : mLk y_Ru_init 0 := ⟨⟨by decide +kernel, by decide +kernel⟩, by decide +kernel, (mIn 56 (by decide +kernel) rfl)⟩
theorem lk_RL_17 : mLkIN R_RL 17 y_Ru_init 0 := ⟨lq_Ru_init, ⟨"PatternWatch", by decide +kernel⟩, rfl, (mIn 104 (by decide +kernel) rfl)⟩
theorem lk_RL_22 : mLkSN R_RL 22 y_Pw_isWithin 3 := ⟨lq_Pw_isWithin, ⟨"PatternWatch", by decide +kernel⟩, (mIn 479 (by decide +kernel) rfl)⟩
theorem lk_RL_26 : mLkV R_RL 26 y_RL_has 1 := ⟨lq_RL_has, (mIn 547 (by decide +kernel) rfl), (mIn 549 (by decide +kernel) rfl), (mIn 35 (by decide +kernel) rfl)⟩
theorem lq_Pw_load : mLk y_Pw_load 0 := ⟨⟨by decide +kernel, by decide +kernel⟩, by decide +kernel, (mIn 53 (by decide +kernel) rfl)⟩
theorem lk_Lw_7 : mLkV R_Lw 7 y_Pw_load 0 := ⟨lq_Pw_load, (mIn 310 (by decide +kernel) rfl), (mIn 311 (by decide +kernel) rfl), (mIn 312 (by decide +kernel) rfl)⟩
theorem lq_Pw_event : mLk y_Pw_event 4 := ⟨⟨by decide +kernel, by decide +kernel⟩, by decide +kernel, (mIn 53 (by decide +kernel) rfl)⟩
theorem lk_Lw_15 : mLkV R_Lw 15 y_Pw_event 4 := ⟨lq_Pw_event, (mIn 457 (by decide +kernel) rfl), (mIn 458 (by decide +kernel) rfl), (mIn 459 (by decide +kernel) rfl)⟩
theorem lq_Pw_size : mLk y_Pw_size 1 := ⟨⟨by decide +kernel, by decide +kernel⟩, by decide +kernel, (mIn 53 (by decide +kernel) rfl)⟩
theorem lk_Lw_21 : mLkV R_Lw 21 y_Pw_size 1 := ⟨lq_Pw_size, (mIn 565 (by decide +kernel) rfl), (mIn 566 (by decide +kernel) rfl), (mIn 567 (by decide +kernel) rfl)⟩
theorem lq_Pw_at : mLk y_Pw_at 2 := ⟨⟨by decide +kernel, by decide +kernel⟩, by decide +kernel, (mIn 53 (by decide +kernel) rfl)⟩
theorem lk_Lw_27 : mLkV R_Lw 27 y_Pw_at 2 := ⟨lq_Pw_at, (mIn 589 (by decide +kernel) rfl), (mIn 590 (by decide +kernel) rfl), (mIn 591 (by decide +kernel) rfl)⟩
theorem lq_Pw_run : mLk y_Pw_run 2 := ⟨⟨by decide +kernel, by decide +kernel⟩, by decide +kernel, (mIn 53 (by decide +kernel) rfl)⟩
theorem lk_Lw_31 : mLkV R_Lw 31 y_Pw_run 2 := ⟨lq_Pw_run, (mIn 597 (by decide +kernel) rfl), (mIn 598 (by decide +kernel) rfl), (mIn 599 (by decide +kernel) rfl)⟩
theorem lq_Pw_figure : mLk y_Pw_figure 1 := ⟨⟨by decide +kernel, by decide +kernel⟩, by decide +kernel, (mIn 53 (by decide +kernel) rfl)⟩
theorem lk_Lw_34 : mLkV R_Lw 34 y_Pw_figure 1 := ⟨lq_Pw_figure, (mIn 606 (by decide +kernel) rfl), (mIn 607 (by decide +kernel) rfl), (mIn 608 (by decide +kernel) rfl)⟩
theorem lq_Pw_init : mLk y_Pw_init 0 := ⟨⟨by decide +kernel, by decide +kernel⟩, by decide +kernel, (mIn 53 (by decide +kernel) rfl)⟩
theorem lk_Lw_37 : mLkI R_Lw 37 y_Pw_init 0 := ⟨lq_Pw_init, (mIn 70 (by decide +kernel) rfl), rfl, (mIn 71 (by decide +kernel) rfl)⟩
theorem lq_Md_init : mLk y_Md_init 0 := ⟨⟨by decide +kernel, by decide +kernel⟩, by decide +kernel, (mIn 60 (by decide +kernel) rfl)⟩
theorem lk_Lw_40 : mLkI R_Lw 40 y_Md_init 0 := ⟨lq_Md_init, (mIn 613 (by decide +kernel) rfl), rfl, (mIn 614 (by decide +kernel) rfl)⟩
theorem lq_Pw_type : mLk y_Pw_type 1 := ⟨⟨by decide +kernel, by decide +kernel⟩, by decide +kernel, (mIn 53 (by decide +kernel) rfl)⟩
theorem lk_Lw_41 : mLkV R_Lw 41 y_Pw_type 1 := ⟨lq_Pw_type, (mIn 282 (by decide +kernel) rfl), (mIn 283 (by decide +kernel) rfl), (mIn 284 (by decide +kernel) rfl)⟩
theorem lq_Md_type : mLk y_Md_type 1 := ⟨⟨by decide +kernel, by decide +kernel⟩, by decide +kernel, (mIn 60 (by decide +kernel) rfl)⟩
theorem lk_Lw_45 : mLkV R_Lw 45 y_Md_type 1 := ⟨lq_Md_type, (mIn 734 (by decide +kernel) rfl), (mIn 735 (by decide +kernel) rfl), (mIn 736 (by decide +kernel) rfl)⟩
theorem lq_Pw_wipe : mLk y_Pw_wipe 0 := ⟨⟨by decide +kernel, by decide +kernel⟩, by decide +kernel, (mIn 53 (by decide +kernel) rfl)⟩
theorem lk_Lw_46 : mLkV R_Lw 46 y_Pw_wipe 0 := ⟨lq_Pw_wipe, (mIn 290 (by decide +kernel) rfl), (mIn 291 (by decide +kernel) rfl), (mIn 292 (by decide +kernel) rfl)⟩
theorem lq_Md_wipe : mLk y_Md_wipe 0 := ⟨⟨by decide +kernel, by decide +kernel⟩, by decide +kernel, (mIn 60 (by decide +kernel) rfl)⟩
theorem lk_Lw_49 : mLkV R_Lw 49 y_Md_wipe 0 := ⟨lq_Md_wipe, (mIn 738 (by decide +kernel) rfl), (mIn 739 (by decide +kernel) rfl), (mIn 740 (by decide +kernel) rfl)⟩
theorem lq_Lw_load : mLk y_Lw_load 2 := ⟨⟨by decide +kernel, by decide +kernel⟩, by decide +kernel, (mIn 52 (by decide +kernel) rfl)⟩
theorem lk_Lw_50 : mLkS R_Lw 50 y_Lw_load 2 := ⟨lq_Lw_load, (mIn 306 (by decide +kernel) rfl), (mIn 307 (by decide +kernel) rfl)⟩
theorem lq_Md_load : mLk y_Md_load 0 := ⟨⟨by decide +kernel, by decide +kernel⟩, by decide +kernel, (mIn 60 (by decide +kernel) rfl)⟩
theorem lk_Lw_55 : mLkV R_Lw 55 y_Md_load 0 := ⟨lq_Md_load, (mIn 742 (by decide +kernel) rfl), (mIn 743 (by decide +kernel) rfl), (mIn 744 (by decide +kernel) rfl)⟩
theorem lq_Md_thrown : mLk y_Md_thrown 0 := ⟨⟨by decide +kernel, by decide +kernel⟩, by decide +kernel, (mIn 60 (by decide +kernel) rfl)⟩
theorem lk_Lw_56 : mLkV R_Lw 56 y_Md_thrown 0 := ⟨lq_Md_thrown, (mIn 730 (by decide +kernel) rfl), (mIn 731 (by decide +kernel) rfl), (mIn 732 (by decide +kernel) rfl)⟩
theorem lq_Pw_fault : mLk y_Pw_fault 0 := ⟨⟨by decide +kernel, by decide +kernel⟩, by decide +kernel, (mIn 53 (by decide +kernel) rfl)⟩
theorem lk_Lw_59 : mLkV R_Lw 59 y_Pw_fault 0 := ⟨lq_Pw_fault, (mIn 298 (by decide +kernel) rfl), (mIn 299 (by decide +kernel) rfl), (mIn 300 (by decide +kernel) rfl)⟩
theorem lq_Md_fault : mLk y_Md_fault 0 := ⟨⟨by decide +kernel, by decide +kernel⟩, by decide +kernel, (mIn 60 (by decide +kernel) rfl)⟩
theorem lk_Lw_62 : mLkV R_Lw 62 y_Md_fault 0 := ⟨lq_Md_fault, (mIn 777 (by decide +kernel) rfl), (mIn 778 (by decide +kernel) rfl), (mIn 779 (by decide +kernel) rfl)⟩
theorem lq_Lw_event : mLk y_Lw_event 6 := ⟨⟨by decide +kernel, by decide +kernel⟩, by decide +kernel, (mIn 52 (by decide +kernel) rfl)⟩
theorem lk_Lw_63 : mLkS R_Lw 63 y_Lw_event 6 := ⟨lq_Lw_event, (mIn 453 (by decide +kernel) rfl), (mIn 454 (by decide +kernel) rfl)⟩
theorem lq_Md_event : mLk y_Md_event 4 := ⟨⟨by decide +kernel, by decide +kernel⟩, by decide +kernel, (mIn 60 (by decide +kernel) rfl)⟩
theorem lk_Lw_66 : mLkV R_Lw 66 y_Md_event 4 := ⟨lq_Md_event, (mIn 781 (by decide +kernel) rfl), (mIn 782 (by decide +kernel) rfl), (mIn 783 (by decide +kernel) rfl)⟩
theorem lq_Lw_size : mLk y_Lw_size 3 := ⟨⟨by decide +kernel, by decide +kernel⟩, by decide +kernel, (mIn 52 (by decide +kernel) rfl)⟩
theorem lk_Lw_67 : mLkS R_Lw 67 y_Lw_size 3 := ⟨lq_Lw_size, (mIn 561 (by decide +kernel) rfl), (mIn 562 (by decide +kernel) rfl)⟩
theorem lq_Md_size : mLk y_Md_size 1 := ⟨⟨by decide +kernel, by decide +kernel⟩, by decide +kernel, (mIn 60 (by decide +kernel) rfl)⟩
theorem lk_Lw_70 : mLkV R_Lw 70 y_Md_size 1 := ⟨lq_Md_size, (mIn 813 (by decide +kernel) rfl), (mIn 814 (by decide +kernel) rfl), (mIn 815 (by decide +kernel) rfl)⟩
theorem lq_Lw_at : mLk y_Lw_at 4 := ⟨⟨by decide +kernel, by decide +kernel⟩, by decide +kernel, (mIn 52 (by decide +kernel) rfl)⟩
theorem lk_Lw_71 : mLkS R_Lw 71 y_Lw_at 4 := ⟨lq_Lw_at, (mIn 586 (by decide +kernel) rfl), (mIn 587 (by decide +kernel) rfl)⟩
theorem lq_Md_at : mLk y_Md_at 2 := ⟨⟨by decide +kernel, by decide +kernel⟩, by decide +kernel, (mIn 60 (by decide +kernel) rfl)⟩
theorem lk_Lw_74 : mLkV R_Lw 74 y_Md_at 2 := ⟨lq_Md_at, (mIn 817 (by decide +kernel) rfl), (mIn 818 (by decide +kernel) rfl), (mIn 819 (by decide +kernel) rfl)⟩
theorem lq_Pw_runs : mLk y_Pw_runs 0 := ⟨⟨by decide +kernel, by decide +kernel⟩, by decide +kernel, (mIn 53 (by decide +kernel) rfl)⟩
theorem lk_Lw_75 : mLkV R_Lw 75 y_Pw_runs 0 := ⟨lq_Pw_runs, (mIn 302 (by decide +kernel) rfl), (mIn 303 (by decide +kernel) rfl), (mIn 304 (by decide +kernel) rfl)⟩
theorem lq_Md_runs : mLk y_Md_runs 0 := ⟨⟨by decide +kernel, by decide +kernel⟩, by decide +kernel, (mIn 60 (by decide +kernel) rfl)⟩
theorem lk_Lw_78 : mLkV R_Lw 78 y_Md_runs 0 := ⟨lq_Md_runs, (mIn 821 (by decide +kernel) rfl), (mIn 822 (by decide +kernel) rfl), (mIn 823 (by decide +kernel) rfl)⟩
theorem lq_Lw_run : mLk y_Lw_run 4 := ⟨⟨by decide +kernel, by decide +kernel⟩, by decide +kernel, (mIn 52 (by decide +kernel) rfl)⟩
theorem lk_Lw_79 : mLkS R_Lw 79 y_Lw_run 4 := ⟨lq_Lw_run, (mIn 594 (by decide +kernel) rfl), (mIn 595 (by decide +kernel) rfl)⟩
theorem lq_Md_run : mLk y_Md_run 2 := ⟨⟨by decide +kernel, by decide +kernel⟩, by decide +kernel, (mIn 60 (by decide +kernel) rfl)⟩
theorem lk_Lw_81 : mLkV R_Lw 81 y_Md_run 2 := ⟨lq_Md_run, (mIn 825 (by decide +kernel) rfl), (mIn 826 (by decide +kernel) rfl), (mIn 827 (by decide +kernel) rfl)⟩
theorem lq_Lw_figure : mLk y_Lw_figure 3 := ⟨⟨by decide +kernel, by decide +kernel⟩, by decide +kernel, (mIn 52 (by decide +kernel) rfl)⟩
theorem lk_Lw_82 : mLkS R_Lw 82 y_Lw_figure 3 := ⟨lq_Lw_figure, (mIn 603 (by decide +kernel) rfl), (mIn 604 (by decide +kernel) rfl)⟩
theorem lq_Md_figure : mLk y_Md_figure 1 := ⟨⟨by decide +kernel, by decide +kernel⟩, by decide +kernel, (mIn 60 (by decide +kernel) rfl)⟩
theorem lk_Lw_84 : mLkV R_Lw 84 y_Md_figure 1 := ⟨lq_Md_figure, (mIn 829 (by decide +kernel) rfl), (mIn 830 (by decide +kernel) rfl), (mIn 831 (by decide +kernel) rfl)⟩
theorem lq_Md_begin : mLk y_Md_begin 2 := ⟨⟨by decide +kernel, by decide +kernel⟩, by decide +kernel, (mIn 60 (by decide +kernel) rfl)⟩
theorem lk_Md_80 : mLkV R_Md 80 y_Md_begin 2 := ⟨lq_Md_begin, (mIn 754 (by decide +kernel) rfl), (mIn 756 (by decide +kernel) rfl), (mIn 40 (by decide +kernel) rfl)⟩
theorem lq_Md_after : mLk y_Md_after 1 := ⟨⟨by decide +kernel, by decide +kernel⟩, by decide +kernel, (mIn 60 (by decide +kernel) rfl)⟩
theorem lk_Md_84 : mLkV R_Md 84 y_Md_after 1 := ⟨lq_Md_after, (mIn 762 (by decide +kernel) rfl), (mIn 764 (by decide +kernel) rfl), (mIn 42 (by decide +kernel) rfl)⟩
theorem lq_Md_compare : mLk y_Md_compare 1 := ⟨⟨by decide +kernel, by decide +kernel⟩, by decide +kernel, (mIn 60 (by decide +kernel) rfl)⟩
theorem lk_Md_88 : mLkV R_Md 88 y_Md_compare 1 := ⟨lq_Md_compare, (mIn 758 (by decide +kernel) rfl), (mIn 760 (by decide +kernel) rfl), (mIn 41 (by decide +kernel) rfl)⟩
theorem lq_Md_digit : mLk y_Md_digit 1 := ⟨⟨by decide +kernel, by decide +kernel⟩, by decide +kernel, (mIn 60 (by decide +kernel) rfl)⟩
theorem lk_Md_91 : mLkS R_Md 91 y_Md_digit 1 := ⟨lq_Md_digit, (mIn 766 (by decide +kernel) rfl), (mIn 767 (by decide +kernel) rfl)⟩
theorem lq_Md_figures : mLk y_Md_figures 1 := ⟨⟨by decide +kernel, by decide +kernel⟩, by decide +kernel, (mIn 60 (by decide +kernel) rfl)⟩
theorem lk_Md_95 : mLkV R_Md 95 y_Md_figures 1 := ⟨lq_Md_figures, (mIn 769 (by decide +kernel) rfl), (mIn 771 (by decide +kernel) rfl), (mIn 43 (by decide +kernel) rfl)⟩
theorem lq_Md_next : mLk y_Md_next 2 := ⟨⟨by decide +kernel, by decide +kernel⟩, by decide +kernel, (mIn 60 (by decide +kernel) rfl)⟩
theorem lk_Md_101 : mLkV R_Md 101 y_Md_next 2 := ⟨lq_Md_next, (mIn 750 (by decide +kernel) rfl), (mIn 752 (by decide +kernel) rfl), (mIn 39 (by decide +kernel) rfl)⟩
theorem lq_Md_good : mLk y_Md_good 0 := ⟨⟨by decide +kernel, by decide +kernel⟩, by decide +kernel, (mIn 60 (by decide +kernel) rfl)⟩
theorem lk_Md_141 : mLkV R_Md 141 y_Md_good 0 := ⟨lq_Md_good, (mIn 746 (by decide +kernel) rfl), (mIn 748 (by decide +kernel) rfl), (mIn 38 (by decide +kernel) rfl)⟩
theorem lq_Md_adopt : mLk y_Md_adopt 0 := ⟨⟨by decide +kernel, by decide +kernel⟩, by decide +kernel, (mIn 60 (by decide +kernel) rfl)⟩
theorem lk_Md_145 : mLkV R_Md 145 y_Md_adopt 0 := ⟨lq_Md_adopt, (mIn 773 (by decide +kernel) rfl), (mIn 775 (by decide +kernel) rfl), (mIn 44 (by decide +kernel) rfl)⟩
theorem lq_Md_fits : mLk y_Md_fits 3 := ⟨⟨by decide +kernel, by decide +kernel⟩, by decide +kernel, (mIn 60 (by decide +kernel) rfl)⟩
theorem lk_Md_148 : mLkV R_Md 148 y_Md_fits 3 := ⟨lq_Md_fits, (mIn 789 (by decide +kernel) rfl), (mIn 791 (by decide +kernel) rfl), (mIn 46 (by decide +kernel) rfl)⟩
theorem lq_Md_copy : mLk y_Md_copy 2 := ⟨⟨by decide +kernel, by decide +kernel⟩, by decide +kernel, (mIn 60 (by decide +kernel) rfl)⟩
theorem lk_Md_155 : mLkV R_Md 155 y_Md_copy 2 := ⟨lq_Md_copy, (mIn 797 (by decide +kernel) rfl), (mIn 799 (by decide +kernel) rfl), (mIn 48 (by decide +kernel) rfl)⟩
theorem lq_Md_take : mLk y_Md_take 3 := ⟨⟨by decide +kernel, by decide +kernel⟩, by decide +kernel, (mIn 60 (by decide +kernel) rfl)⟩
theorem lk_Md_159 : mLkV R_Md 159 y_Md_take 3 := ⟨lq_Md_take, (mIn 801 (by decide +kernel) rfl), (mIn 803 (by decide +kernel) rfl), (mIn 49 (by decide +kernel) rfl)⟩
theorem lq_Md_complete : mLk y_Md_complete 2 := ⟨⟨by decide +kernel, by decide +kernel⟩, by decide +kernel, (mIn 60 (by decide +kernel) rfl)⟩
theorem lk_Md_163 : mLkV R_Md 163 y_Md_complete 2 := ⟨lq_Md_complete, (mIn 805 (by decide +kernel) rfl), (mIn 807 (by decide +kernel) rfl), (mIn 50 (by decide +kernel) rfl)⟩
theorem lq_Md_isBarred : mLk y_Md_isBarred 2 := ⟨⟨by decide +kernel, by decide +kernel⟩, by decide +kernel, (mIn 60 (by decide +kernel) rfl)⟩
theorem lk_Md_169 : mLkV R_Md 169 y_Md_isBarred 2 := ⟨lq_Md_isBarred, (mIn 785 (by decide +kernel) rfl), (mIn 787 (by decide +kernel) rfl), (mIn 45 (by decide +kernel) rfl)⟩
theorem lq_Md_proceed : mLk y_Md_proceed 3 := ⟨⟨by decide +kernel, by decide +kernel⟩, by decide +kernel, (mIn 60 (by decide +kernel) rfl)⟩
theorem lk_Md_173 : mLkV R_Md 173 y_Md_proceed 3 := ⟨lq_Md_proceed, (mIn 793 (by decide +kernel) rfl), (mIn 795 (by decide +kernel) rfl), (mIn 47 (by decide +kernel) rfl)⟩
theorem lq_Md_start : mLk y_Md_start 2 := ⟨⟨by decide +kernel, by decide +kernel⟩, by decide +kernel, (mIn 60 (by decide +kernel) rfl)⟩
theorem lk_Md_177 : mLkV R_Md 177 y_Md_start 2 := ⟨lq_Md_start, (mIn 809 (by decide +kernel) rfl), (mIn 811 (by decide +kernel) rfl), (mIn 51 (by decide +kernel) rfl)⟩
theorem cd_Pw_init : mCd y_Pw_init c_Pw_init 1 none := mIn 72 (by decide +kernel) rfl
theorem cd_Rd_init : mCd y_Rd_init c_Rd_init 1 none := mIn 80 (by decide +kernel) rfl
theorem cd_RL_init : mCd y_RL_init c_RL_init 2 none := mIn 98 (by decide +kernel) rfl
theorem cd_Ru_init : mCd y_Ru_init c_Ru_init 1 none := mIn 105 (by decide +kernel) rfl
theorem cd_Ev_init : mCd y_Ev_init c_Ev_init 1 none := mIn 154 (by decide +kernel) rfl
theorem cd_Pt_init : mCd y_Pt_init c_Pt_init 2 none := mIn 182 (by decide +kernel) rfl
theorem cd_El_init : mCd y_El_init c_El_init 1 none := mIn 189 (by decide +kernel) rfl
theorem cd_Pw_type : mCd y_Pw_type c_Pw_type 2 (some .boolean) := mIn 285 (by decide +kernel) rfl
theorem cd_Rd_put : mCd y_Rd_put c_Rd_put 2 (some .boolean) := mIn 289 (by decide +kernel) rfl
theorem cd_Pw_wipe : mCd y_Pw_wipe c_Pw_wipe 1 none := mIn 293 (by decide +kernel) rfl
theorem cd_Rd_empty : mCd y_Rd_empty c_Rd_empty 1 none := mIn 297 (by decide +kernel) rfl
theorem cd_Pw_fault : mCd y_Pw_fault c_Pw_fault 1 (some .int) := mIn 301 (by decide +kernel) rfl
theorem cd_Pw_runs : mCd y_Pw_runs c_Pw_runs 1 (some .int) := mIn 305 (by decide +kernel) rfl
theorem cd_Pw_load : mCd y_Pw_load c_Pw_load 2 (some .int) := mIn 313 (by decide +kernel) rfl
theorem cd_Rd_readInto : mCd y_Rd_readInto c_Rd_readInto 3 (some .boolean) := mIn 317 (by decide +kernel) rfl
theorem cd_Pt_clear : mCd y_Pt_clear c_Pt_clear 1 none := mIn 321 (by decide +kernel) rfl
theorem cd_Rd_isElementAhead : mCd y_Rd_isElementAhead c_Rd_isElementAhead 1 (some .boolean) := mIn 325 (by decide +kernel) rfl
theorem cd_Rd_ahead : mCd y_Rd_ahead c_Rd_ahead 1 (some .char) := mIn 329 (by decide +kernel) rfl
theorem cd_Rd_isKindAhead : mCd y_Rd_isKindAhead c_Rd_isKindAhead 1 (some .boolean) := mIn 333 (by decide +kernel) rfl
theorem cd_Pw_isLetter : mCd y_Pw_isLetter c_Pw_isLetter 1 (some .boolean) := mIn 336 (by decide +kernel) rfl
theorem cd_Rd_readElement : mCd y_Rd_readElement c_Rd_readElement 4 (some .boolean) := mIn 340 (by decide +kernel) rfl
theorem cd_El_clear : mCd y_El_clear c_El_clear 1 none := mIn 344 (by decide +kernel) rfl
theorem cd_Rd_isTestAhead : mCd y_Rd_isTestAhead c_Rd_isTestAhead 1 (some .boolean) := mIn 348 (by decide +kernel) rfl
theorem cd_Rd_readCondition : mCd y_Rd_readCondition c_Rd_readCondition 5 (some .boolean) := mIn 352 (by decide +kernel) rfl
theorem cd_Rd_passes : mCd y_Rd_passes c_Rd_passes 2 (some .boolean) := mIn 356 (by decide +kernel) rfl
theorem cd_Rd_readDigits : mCd y_Rd_readDigits c_Rd_readDigits 5 (some .int) := mIn 360 (by decide +kernel) rfl
theorem cd_Rd_isDigitAhead : mCd y_Rd_isDigitAhead c_Rd_isDigitAhead 1 (some .boolean) := mIn 364 (by decide +kernel) rfl
theorem cd_Pt_countElement : mCd y_Pt_countElement c_Pt_countElement 1 none := mIn 368 (by decide +kernel) rfl
theorem cd_Pt_mayEnd : mCd y_Pt_mayEnd c_Pt_mayEnd 1 (some .boolean) := mIn 372 (by decide +kernel) rfl
theorem cd_Rd_readEnd : mCd y_Rd_readEnd c_Rd_readEnd 2 (some .boolean) := mIn 376 (by decide +kernel) rfl
theorem cd_Pw_startAnew : mCd y_Pw_startAnew c_Pw_startAnew 1 none := mIn 448 (by decide +kernel) rfl
theorem cd_RL_clear : mCd y_RL_clear c_RL_clear 1 none := mIn 452 (by decide +kernel) rfl
theorem cd_Pw_event : mCd y_Pw_event c_Pw_event 5 (some .int) := mIn 460 (by decide +kernel) rfl
theorem cd_Pw_isWithin : mCd y_Pw_isWithin c_Pw_isWithin 3 (some .boolean) := mIn 480 (by decide +kernel) rfl
theorem cd_Pw_lookAtRuns : mCd y_Pw_lookAtRuns c_Pw_lookAtRuns 4 none := mIn 485 (by decide +kernel) rfl
theorem cd_Pw_staysInList : mCd y_Pw_staysInList c_Pw_staysInList 6 (some .boolean) := mIn 489 (by decide +kernel) rfl
theorem cd_Pw_isBarred : mCd y_Pw_isBarred c_Pw_isBarred 4 (some .boolean) := mIn 493 (by decide +kernel) rfl
theorem cd_Pt_stepPlace : mCd y_Pt_stepPlace c_Pt_stepPlace 2 (some .int) := mIn 497 (by decide +kernel) rfl
theorem cd_Pw_fits : mCd y_Pw_fits c_Pw_fits 3 (some .boolean) := mIn 502 (by decide +kernel) rfl
theorem cd_El_admits : mCd y_El_admits c_El_admits 4 (some .boolean) := mIn 506 (by decide +kernel) rfl
theorem cd_Pt_stepElement : mCd y_Pt_stepElement c_Pt_stepElement 2 (some (.object "PatternWatch$Element")) := mIn 510 (by decide +kernel) rfl
theorem cd_Pw_mayStay : mCd y_Pw_mayStay c_Pw_mayStay 3 (some .boolean) := mIn 515 (by decide +kernel) rfl
theorem cd_Pt_isLastStep : mCd y_Pt_isLastStep c_Pt_isLastStep 2 (some .boolean) := mIn 519 (by decide +kernel) rfl
theorem cd_Pw_goOnApart : mCd y_Pw_goOnApart c_Pw_goOnApart 4 none := mIn 523 (by decide +kernel) rfl
theorem cd_Pw_rowForStep : mCd y_Pw_rowForStep c_Pw_rowForStep 3 (some (.object "PatternWatch$Run")) := mIn 527 (by decide +kernel) rfl
theorem cd_RL_add : mCd y_RL_add c_RL_add 1 (some (.object "PatternWatch$Run")) := mIn 531 (by decide +kernel) rfl
theorem cd_Ru_copyFrom : mCd y_Ru_copyFrom c_Ru_copyFrom 2 none := mIn 535 (by decide +kernel) rfl
theorem cd_Ru_take : mCd y_Ru_take c_Ru_take 3 none := mIn 542 (by decide +kernel) rfl
theorem cd_RL_remove : mCd y_RL_remove c_RL_remove 4 none := mIn 546 (by decide +kernel) rfl
theorem cd_RL_has : mCd y_RL_has c_RL_has 2 (some .boolean) := mIn 550 (by decide +kernel) rfl
theorem cd_Pw_beginRun : mCd y_Pw_beginRun c_Pw_beginRun 2 none := mIn 555 (by decide +kernel) rfl
theorem cd_Ru_begin : mCd y_Ru_begin c_Ru_begin 2 none := mIn 559 (by decide +kernel) rfl
theorem cd_Pw_size : mCd y_Pw_size c_Pw_size 2 (some .int) := mIn 568 (by decide +kernel) rfl
theorem cd_Pw_at : mCd y_Pw_at c_Pw_at 3 (some .int) := mIn 592 (by decide +kernel) rfl
theorem cd_Pw_run : mCd y_Pw_run c_Pw_run 4 (some .int) := mIn 600 (by decide +kernel) rfl
theorem cd_Pw_figure : mCd y_Pw_figure c_Pw_figure 2 (some .int) := mIn 609 (by decide +kernel) rfl
theorem cd_Md_init : mCd y_Md_init c_Md_init 1 none := mIn 615 (by decide +kernel) rfl
theorem cd_Md_thrown : mCd y_Md_thrown c_Md_thrown 1 (some .int) := mIn 733 (by decide +kernel) rfl
theorem cd_Md_type : mCd y_Md_type c_Md_type 2 (some .boolean) := mIn 737 (by decide +kernel) rfl
theorem cd_Md_wipe : mCd y_Md_wipe c_Md_wipe 1 none := mIn 741 (by decide +kernel) rfl
theorem cd_Md_load : mCd y_Md_load c_Md_load 3 (some .int) := mIn 745 (by decide +kernel) rfl
theorem cd_Md_good : mCd y_Md_good c_Md_good 6 (some .int) := mIn 749 (by decide +kernel) rfl
theorem cd_Md_next : mCd y_Md_next c_Md_next 4 (some .int) := mIn 753 (by decide +kernel) rfl
theorem cd_Md_begin : mCd y_Md_begin c_Md_begin 5 (some .int) := mIn 757 (by decide +kernel) rfl
theorem cd_Md_compare : mCd y_Md_compare c_Md_compare 3 (some .int) := mIn 761 (by decide +kernel) rfl
theorem cd_Md_after : mCd y_Md_after c_Md_after 4 (some .int) := mIn 765 (by decide +kernel) rfl
theorem cd_Md_digit : mCd y_Md_digit c_Md_digit 1 (some .boolean) := mIn 768 (by decide +kernel) rfl
theorem cd_Md_figures : mCd y_Md_figures c_Md_figures 4 (some .int) := mIn 772 (by decide +kernel) rfl
theorem cd_Md_adopt : mCd y_Md_adopt c_Md_adopt 2 none := mIn 776 (by decide +kernel) rfl
theorem cd_Md_fault : mCd y_Md_fault c_Md_fault 1 (some .int) := mIn 780 (by decide +kernel) rfl
theorem cd_Md_event : mCd y_Md_event c_Md_event 9 (some .int) := mIn 784 (by decide +kernel) rfl
theorem cd_Md_isBarred : mCd y_Md_isBarred c_Md_isBarred 5 (some .boolean) := mIn 788 (by decide +kernel) rfl
theorem cd_Md_fits : mCd y_Md_fits c_Md_fits 7 (some .boolean) := mIn 792 (by decide +kernel) rfl
theorem cd_Md_proceed : mCd y_Md_proceed c_Md_proceed 7 (some .int) := mIn 796 (by decide +kernel) rfl
theorem cd_Md_copy : mCd y_Md_copy c_Md_copy 4 none := mIn 800 (by decide +kernel) rfl
theorem cd_Md_take : mCd y_Md_take c_Md_take 4 none := mIn 804 (by decide +kernel) rfl
theorem cd_Md_complete : mCd y_Md_complete c_Md_complete 5 none := mIn 808 (by decide +kernel) rfl
theorem cd_Md_start : mCd y_Md_start c_Md_start 3 none := mIn 812 (by decide +kernel) rfl
theorem cd_Md_size : mCd y_Md_size c_Md_size 2 (some .int) := mIn 816 (by decide +kernel) rfl
theorem cd_Md_at : mCd y_Md_at c_Md_at 3 (some .int) := mIn 820 (by decide +kernel) rfl
theorem cd_Md_runs : mCd y_Md_runs c_Md_runs 1 (some .int) := mIn 824 (by decide +kernel) rfl
theorem cd_Md_run : mCd y_Md_run c_Md_run 3 (some .int) := mIn 828 (by decide +kernel) rfl
theorem cd_Md_figure : mCd y_Md_figure c_Md_figure 2 (some .int) := mIn 832 (by decide +kernel) rfl
