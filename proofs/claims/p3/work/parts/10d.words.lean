/-! ===== words of the table, one theorem each ===== -/
set_option maxRecDepth 100000 in
theorem gwb_0 : (lw_tbl[291]? = some (Cond.methodLink RX0 18 yJ9_min_7cf53) ∧ goodWord (Cond.methodLink RX0 18 yJ9_min_7cf53) = true) ∧ (lw_tbl[108]? = some (Cond.static yJ9_min_7cf53) ∧ goodWord (Cond.static yJ9_min_7cf53) = true) ∧ (lw_tbl[109]? = some (Cond.code yJ9_min_7cf53 prog_15_method_69_code 2 (some .int)) ∧ goodWord (Cond.code yJ9_min_7cf53 prog_15_method_69_code 2 (some .int)) = true) ∧ (lw_tbl[77]? = some (Cond.initialized yJ9_min_7cf53.cls) ∧ goodWord (Cond.initialized yJ9_min_7cf53.cls) = true) ∧ (lw_tbl[292]? = some (Cond.methodLink RX0 24 yJ9_max_7cf53) ∧ goodWord (Cond.methodLink RX0 24 yJ9_max_7cf53) = true) ∧ (lw_tbl[111]? = some (Cond.static yJ9_max_7cf53) ∧ goodWord (Cond.static yJ9_max_7cf53) = true) ∧ (lw_tbl[112]? = some (Cond.code yJ9_max_7cf53 prog_15_method_65_code 2 (some .int)) ∧ goodWord (Cond.code yJ9_max_7cf53 prog_15_method_65_code 2 (some .int)) = true) ∧ (lw_tbl[77]? = some (Cond.initialized yJ9_max_7cf53.cls) ∧ goodWord (Cond.initialized yJ9_max_7cf53.cls) = true) := by decide +kernel
set_option maxRecDepth 100000 in
theorem gl_RX0_18 : Cond.methodLink RX0 18 yJ9_min_7cf53 ∈ gtbl := g_at 291 gwb_0.1
set_option maxRecDepth 100000 in
theorem gt_J9_min_7cf53 : Cond.static yJ9_min_7cf53 ∈ gtbl := g_at 108 gwb_0.2.1
set_option maxRecDepth 100000 in
theorem gp0_J9_min_7cf53 : (parseMethodDescriptor yJ9_min_7cf53.desc).map (fun d => d.parameters.length) = some 2 := by decide +kernel
set_option maxRecDepth 100000 in
theorem gc_J9_min_7cf53 : Cond.code yJ9_min_7cf53 prog_15_method_69_code 2 (some .int) ∈ gtbl := g_at 109 gwb_0.2.2.1
set_option maxRecDepth 100000 in
theorem gi_J9_min_7cf53 : Cond.initialized yJ9_min_7cf53.cls ∈ gtbl := g_at 77 gwb_0.2.2.2.1
set_option maxRecDepth 100000 in
theorem gh_J9_min_7cf53 : yJ9_min_7cf53.cls ≠ "java/lang/invoke/MethodHandle" ∧ yJ9_min_7cf53.cls ≠ "java/lang/invoke/VarHandle" := ⟨by decide +kernel, by decide +kernel⟩
set_option maxRecDepth 100000 in
theorem gl_RX0_24 : Cond.methodLink RX0 24 yJ9_max_7cf53 ∈ gtbl := g_at 292 gwb_0.2.2.2.2.1
set_option maxRecDepth 100000 in
theorem gt_J9_max_7cf53 : Cond.static yJ9_max_7cf53 ∈ gtbl := g_at 111 gwb_0.2.2.2.2.2.1
set_option maxRecDepth 100000 in
theorem gp0_J9_max_7cf53 : (parseMethodDescriptor yJ9_max_7cf53.desc).map (fun d => d.parameters.length) = some 2 := by decide +kernel
set_option maxRecDepth 100000 in
theorem gc_J9_max_7cf53 : Cond.code yJ9_max_7cf53 prog_15_method_65_code 2 (some .int) ∈ gtbl := g_at 112 gwb_0.2.2.2.2.2.2.1
set_option maxRecDepth 100000 in
theorem gi_J9_max_7cf53 : Cond.initialized yJ9_max_7cf53.cls ∈ gtbl := g_at 77 gwb_0.2.2.2.2.2.2.2
set_option maxRecDepth 100000 in
theorem gh_J9_max_7cf53 : yJ9_max_7cf53.cls ≠ "java/lang/invoke/MethodHandle" ∧ yJ9_max_7cf53.cls ≠ "java/lang/invoke/VarHandle" := ⟨by decide +kernel, by decide +kernel⟩
set_option maxRecDepth 100000 in
theorem gwb_1 : (lw_tbl[646]? = some (Cond.methodLink RX0 39 yX0_takeFirsts) ∧ goodWord (Cond.methodLink RX0 39 yX0_takeFirsts) = true) ∧ (lw_tbl[648]? = some (Cond.instanceMethod yX0_takeFirsts) ∧ goodWord (Cond.instanceMethod yX0_takeFirsts) = true) ∧ (lw_tbl[16]? = some (Cond.selects (fR 0) yX0_takeFirsts yX0_takeFirsts) ∧ goodWord (Cond.selects (fR 0) yX0_takeFirsts yX0_takeFirsts) = true) ∧ (lw_tbl[649]? = some (Cond.code yX0_takeFirsts cX0_takeFirsts 6 none) ∧ goodWord (Cond.code yX0_takeFirsts cX0_takeFirsts 6 none) = true) ∧ (lw_tbl[81]? = some (Cond.initialized yX0_takeFirsts.cls) ∧ goodWord (Cond.initialized yX0_takeFirsts.cls) = true) ∧ (lw_tbl[674]? = some (Cond.methodLink RX0 59 yX0_made) ∧ goodWord (Cond.methodLink RX0 59 yX0_made) = true) ∧ (lw_tbl[675]? = some (Cond.instanceMethod yX0_made) ∧ goodWord (Cond.instanceMethod yX0_made) = true) ∧ (lw_tbl[676]? = some (Cond.selects (fR 0) yX0_made yX0_made) ∧ goodWord (Cond.selects (fR 0) yX0_made yX0_made) = true) := by decide +kernel
set_option maxRecDepth 100000 in
theorem gl_RX0_39 : Cond.methodLink RX0 39 yX0_takeFirsts ∈ gtbl := g_at 646 gwb_1.1
set_option maxRecDepth 100000 in
theorem gn_X0_takeFirsts : Cond.instanceMethod yX0_takeFirsts ∈ gtbl := g_at 648 gwb_1.2.1
set_option maxRecDepth 100000 in
theorem gs_X0_takeFirsts : Cond.selects (fR 0) yX0_takeFirsts yX0_takeFirsts ∈ gtbl := g_at 16 gwb_1.2.2.1
set_option maxRecDepth 100000 in
theorem gp1_X0_takeFirsts : (parseMethodDescriptor yX0_takeFirsts.desc).map (fun d => d.parameters.length + 1) = some 3 := by decide +kernel
set_option maxRecDepth 100000 in
theorem gc_X0_takeFirsts : Cond.code yX0_takeFirsts cX0_takeFirsts 6 none ∈ gtbl := g_at 649 gwb_1.2.2.2.1
set_option maxRecDepth 100000 in
theorem gi_X0_takeFirsts : Cond.initialized yX0_takeFirsts.cls ∈ gtbl := g_at 81 gwb_1.2.2.2.2.1
set_option maxRecDepth 100000 in
theorem gh_X0_takeFirsts : yX0_takeFirsts.cls ≠ "java/lang/invoke/MethodHandle" ∧ yX0_takeFirsts.cls ≠ "java/lang/invoke/VarHandle" := ⟨by decide +kernel, by decide +kernel⟩
set_option maxRecDepth 100000 in
theorem gl_RX0_59 : Cond.methodLink RX0 59 yX0_made ∈ gtbl := g_at 674 gwb_1.2.2.2.2.2.1
set_option maxRecDepth 100000 in
theorem gn_X0_made : Cond.instanceMethod yX0_made ∈ gtbl := g_at 675 gwb_1.2.2.2.2.2.2.1
set_option maxRecDepth 100000 in
theorem gs_X0_made : Cond.selects (fR 0) yX0_made yX0_made ∈ gtbl := g_at 676 gwb_1.2.2.2.2.2.2.2
set_option maxRecDepth 100000 in
theorem gp1_X0_made : (parseMethodDescriptor yX0_made.desc).map (fun d => d.parameters.length + 1) = some 6 := by decide +kernel
set_option maxRecDepth 100000 in
theorem gwb_2 : (lw_tbl[677]? = some (Cond.code yX0_made cX0_made 13 (some .int)) ∧ goodWord (Cond.code yX0_made cX0_made 13 (some .int)) = true) ∧ (lw_tbl[81]? = some (Cond.initialized yX0_made.cls) ∧ goodWord (Cond.initialized yX0_made.cls) = true) ∧ (lw_tbl[721]? = some (Cond.methodLink RX0 63 yX7_slipped) ∧ goodWord (Cond.methodLink RX0 63 yX7_slipped) = true) ∧ (lw_tbl[722]? = some (Cond.instanceMethod yX7_slipped) ∧ goodWord (Cond.instanceMethod yX7_slipped) = true) ∧ (lw_tbl[723]? = some (Cond.selects (fR 7) yX7_slipped yX7_slipped) ∧ goodWord (Cond.selects (fR 7) yX7_slipped yX7_slipped) = true) ∧ (lw_tbl[724]? = some (Cond.code yX7_slipped cX7_slipped 8 (some .int)) ∧ goodWord (Cond.code yX7_slipped cX7_slipped 8 (some .int)) = true) ∧ (lw_tbl[80]? = some (Cond.initialized yX7_slipped.cls) ∧ goodWord (Cond.initialized yX7_slipped.cls) = true) ∧ (lw_tbl[670]? = some (Cond.methodLink RX0 67 yX0_set) ∧ goodWord (Cond.methodLink RX0 67 yX0_set) = true) := by decide +kernel
set_option maxRecDepth 100000 in
theorem gc_X0_made : Cond.code yX0_made cX0_made 13 (some .int) ∈ gtbl := g_at 677 gwb_2.1
set_option maxRecDepth 100000 in
theorem gi_X0_made : Cond.initialized yX0_made.cls ∈ gtbl := g_at 81 gwb_2.2.1
set_option maxRecDepth 100000 in
theorem gh_X0_made : yX0_made.cls ≠ "java/lang/invoke/MethodHandle" ∧ yX0_made.cls ≠ "java/lang/invoke/VarHandle" := ⟨by decide +kernel, by decide +kernel⟩
set_option maxRecDepth 100000 in
theorem gl_RX0_63 : Cond.methodLink RX0 63 yX7_slipped ∈ gtbl := g_at 721 gwb_2.2.2.1
set_option maxRecDepth 100000 in
theorem gn_X7_slipped : Cond.instanceMethod yX7_slipped ∈ gtbl := g_at 722 gwb_2.2.2.2.1
set_option maxRecDepth 100000 in
theorem gs_X7_slipped : Cond.selects (fR 7) yX7_slipped yX7_slipped ∈ gtbl := g_at 723 gwb_2.2.2.2.2.1
set_option maxRecDepth 100000 in
theorem gp1_X7_slipped : (parseMethodDescriptor yX7_slipped.desc).map (fun d => d.parameters.length + 1) = some 6 := by decide +kernel
set_option maxRecDepth 100000 in
theorem gc_X7_slipped : Cond.code yX7_slipped cX7_slipped 8 (some .int) ∈ gtbl := g_at 724 gwb_2.2.2.2.2.2.1
set_option maxRecDepth 100000 in
theorem gi_X7_slipped : Cond.initialized yX7_slipped.cls ∈ gtbl := g_at 80 gwb_2.2.2.2.2.2.2.1
set_option maxRecDepth 100000 in
theorem gh_X7_slipped : yX7_slipped.cls ≠ "java/lang/invoke/MethodHandle" ∧ yX7_slipped.cls ≠ "java/lang/invoke/VarHandle" := ⟨by decide +kernel, by decide +kernel⟩
set_option maxRecDepth 100000 in
theorem gl_RX0_67 : Cond.methodLink RX0 67 yX0_set ∈ gtbl := g_at 670 gwb_2.2.2.2.2.2.2.2
set_option maxRecDepth 100000 in
theorem gwb_3 : (lw_tbl[671]? = some (Cond.instanceMethod yX0_set) ∧ goodWord (Cond.instanceMethod yX0_set) = true) ∧ (lw_tbl[672]? = some (Cond.selects (fR 0) yX0_set yX0_set) ∧ goodWord (Cond.selects (fR 0) yX0_set yX0_set) = true) ∧ (lw_tbl[673]? = some (Cond.code yX0_set cX0_set 6 none) ∧ goodWord (Cond.code yX0_set cX0_set 6 none) = true) ∧ (lw_tbl[81]? = some (Cond.initialized yX0_set.cls) ∧ goodWord (Cond.initialized yX0_set.cls) = true) ∧ (lw_tbl[650]? = some (Cond.methodLink RX0 71 yX7_isGap) ∧ goodWord (Cond.methodLink RX0 71 yX7_isGap) = true) ∧ (lw_tbl[651]? = some (Cond.instanceMethod yX7_isGap) ∧ goodWord (Cond.instanceMethod yX7_isGap) = true) ∧ (lw_tbl[652]? = some (Cond.selects (fR 7) yX7_isGap yX7_isGap) ∧ goodWord (Cond.selects (fR 7) yX7_isGap yX7_isGap) = true) ∧ (lw_tbl[653]? = some (Cond.code yX7_isGap cX7_isGap 3 (some .boolean)) ∧ goodWord (Cond.code yX7_isGap cX7_isGap 3 (some .boolean)) = true) := by decide +kernel
set_option maxRecDepth 100000 in
theorem gn_X0_set : Cond.instanceMethod yX0_set ∈ gtbl := g_at 671 gwb_3.1
set_option maxRecDepth 100000 in
theorem gs_X0_set : Cond.selects (fR 0) yX0_set yX0_set ∈ gtbl := g_at 672 gwb_3.2.1
set_option maxRecDepth 100000 in
theorem gp1_X0_set : (parseMethodDescriptor yX0_set.desc).map (fun d => d.parameters.length + 1) = some 5 := by decide +kernel
set_option maxRecDepth 100000 in
theorem gc_X0_set : Cond.code yX0_set cX0_set 6 none ∈ gtbl := g_at 673 gwb_3.2.2.1
set_option maxRecDepth 100000 in
theorem gi_X0_set : Cond.initialized yX0_set.cls ∈ gtbl := g_at 81 gwb_3.2.2.2.1
set_option maxRecDepth 100000 in
theorem gh_X0_set : yX0_set.cls ≠ "java/lang/invoke/MethodHandle" ∧ yX0_set.cls ≠ "java/lang/invoke/VarHandle" := ⟨by decide +kernel, by decide +kernel⟩
set_option maxRecDepth 100000 in
theorem gl_RX0_71 : Cond.methodLink RX0 71 yX7_isGap ∈ gtbl := g_at 650 gwb_3.2.2.2.2.1
set_option maxRecDepth 100000 in
theorem gn_X7_isGap : Cond.instanceMethod yX7_isGap ∈ gtbl := g_at 651 gwb_3.2.2.2.2.2.1
set_option maxRecDepth 100000 in
theorem gs_X7_isGap : Cond.selects (fR 7) yX7_isGap yX7_isGap ∈ gtbl := g_at 652 gwb_3.2.2.2.2.2.2.1
set_option maxRecDepth 100000 in
theorem gp1_X7_isGap : (parseMethodDescriptor yX7_isGap.desc).map (fun d => d.parameters.length + 1) = some 3 := by decide +kernel
set_option maxRecDepth 100000 in
theorem gc_X7_isGap : Cond.code yX7_isGap cX7_isGap 3 (some .boolean) ∈ gtbl := g_at 653 gwb_3.2.2.2.2.2.2.2
set_option maxRecDepth 100000 in
theorem gwb_4 : (lw_tbl[80]? = some (Cond.initialized yX7_isGap.cls) ∧ goodWord (Cond.initialized yX7_isGap.cls) = true) ∧ (lw_tbl[658]? = some (Cond.methodLink RX0 75 yX7_filled) ∧ goodWord (Cond.methodLink RX0 75 yX7_filled) = true) ∧ (lw_tbl[659]? = some (Cond.instanceMethod yX7_filled) ∧ goodWord (Cond.instanceMethod yX7_filled) = true) ∧ (lw_tbl[660]? = some (Cond.selects (fR 7) yX7_filled yX7_filled) ∧ goodWord (Cond.selects (fR 7) yX7_filled yX7_filled) = true) ∧ (lw_tbl[661]? = some (Cond.code yX7_filled cX7_filled 9 (some .int)) ∧ goodWord (Cond.code yX7_filled cX7_filled 9 (some .int)) = true) ∧ (lw_tbl[80]? = some (Cond.initialized yX7_filled.cls) ∧ goodWord (Cond.initialized yX7_filled.cls) = true) ∧ (lw_tbl[669]? = some (Cond.methodLink RX0 79 yX7_firstAt) ∧ goodWord (Cond.methodLink RX0 79 yX7_firstAt) = true) ∧ (lw_tbl[655]? = some (Cond.instanceMethod yX7_firstAt) ∧ goodWord (Cond.instanceMethod yX7_firstAt) = true) := by decide +kernel
set_option maxRecDepth 100000 in
theorem gi_X7_isGap : Cond.initialized yX7_isGap.cls ∈ gtbl := g_at 80 gwb_4.1
set_option maxRecDepth 100000 in
theorem gh_X7_isGap : yX7_isGap.cls ≠ "java/lang/invoke/MethodHandle" ∧ yX7_isGap.cls ≠ "java/lang/invoke/VarHandle" := ⟨by decide +kernel, by decide +kernel⟩
set_option maxRecDepth 100000 in
theorem gl_RX0_75 : Cond.methodLink RX0 75 yX7_filled ∈ gtbl := g_at 658 gwb_4.2.1
set_option maxRecDepth 100000 in
theorem gn_X7_filled : Cond.instanceMethod yX7_filled ∈ gtbl := g_at 659 gwb_4.2.2.1
set_option maxRecDepth 100000 in
theorem gs_X7_filled : Cond.selects (fR 7) yX7_filled yX7_filled ∈ gtbl := g_at 660 gwb_4.2.2.2.1
set_option maxRecDepth 100000 in
theorem gp1_X7_filled : (parseMethodDescriptor yX7_filled.desc).map (fun d => d.parameters.length + 1) = some 4 := by decide +kernel
set_option maxRecDepth 100000 in
theorem gc_X7_filled : Cond.code yX7_filled cX7_filled 9 (some .int) ∈ gtbl := g_at 661 gwb_4.2.2.2.2.1
set_option maxRecDepth 100000 in
theorem gi_X7_filled : Cond.initialized yX7_filled.cls ∈ gtbl := g_at 80 gwb_4.2.2.2.2.2.1
set_option maxRecDepth 100000 in
theorem gh_X7_filled : yX7_filled.cls ≠ "java/lang/invoke/MethodHandle" ∧ yX7_filled.cls ≠ "java/lang/invoke/VarHandle" := ⟨by decide +kernel, by decide +kernel⟩
set_option maxRecDepth 100000 in
theorem gl_RX0_79 : Cond.methodLink RX0 79 yX7_firstAt ∈ gtbl := g_at 669 gwb_4.2.2.2.2.2.2.1
set_option maxRecDepth 100000 in
theorem gn_X7_firstAt : Cond.instanceMethod yX7_firstAt ∈ gtbl := g_at 655 gwb_4.2.2.2.2.2.2.2
set_option maxRecDepth 100000 in
theorem gwb_5 : (lw_tbl[656]? = some (Cond.selects (fR 7) yX7_firstAt yX7_firstAt) ∧ goodWord (Cond.selects (fR 7) yX7_firstAt yX7_firstAt) = true) ∧ (lw_tbl[657]? = some (Cond.code yX7_firstAt cX7_firstAt 4 (some .int)) ∧ goodWord (Cond.code yX7_firstAt cX7_firstAt 4 (some .int)) = true) ∧ (lw_tbl[80]? = some (Cond.initialized yX7_firstAt.cls) ∧ goodWord (Cond.initialized yX7_firstAt.cls) = true) ∧ (lw_tbl[678]? = some (Cond.methodLink RX0 85 yX0_number) ∧ goodWord (Cond.methodLink RX0 85 yX0_number) = true) ∧ (lw_tbl[679]? = some (Cond.instanceMethod yX0_number) ∧ goodWord (Cond.instanceMethod yX0_number) = true) ∧ (lw_tbl[680]? = some (Cond.selects (fR 0) yX0_number yX0_number) ∧ goodWord (Cond.selects (fR 0) yX0_number yX0_number) = true) ∧ (lw_tbl[681]? = some (Cond.code yX0_number cX0_number 5 (some .int)) ∧ goodWord (Cond.code yX0_number cX0_number 5 (some .int)) = true) ∧ (lw_tbl[81]? = some (Cond.initialized yX0_number.cls) ∧ goodWord (Cond.initialized yX0_number.cls) = true) := by decide +kernel
set_option maxRecDepth 100000 in
theorem gs_X7_firstAt : Cond.selects (fR 7) yX7_firstAt yX7_firstAt ∈ gtbl := g_at 656 gwb_5.1
set_option maxRecDepth 100000 in
theorem gp1_X7_firstAt : (parseMethodDescriptor yX7_firstAt.desc).map (fun d => d.parameters.length + 1) = some 3 := by decide +kernel
set_option maxRecDepth 100000 in
theorem gc_X7_firstAt : Cond.code yX7_firstAt cX7_firstAt 4 (some .int) ∈ gtbl := g_at 657 gwb_5.2.1
set_option maxRecDepth 100000 in
theorem gi_X7_firstAt : Cond.initialized yX7_firstAt.cls ∈ gtbl := g_at 80 gwb_5.2.2.1
set_option maxRecDepth 100000 in
theorem gh_X7_firstAt : yX7_firstAt.cls ≠ "java/lang/invoke/MethodHandle" ∧ yX7_firstAt.cls ≠ "java/lang/invoke/VarHandle" := ⟨by decide +kernel, by decide +kernel⟩
set_option maxRecDepth 100000 in
theorem gl_RX0_85 : Cond.methodLink RX0 85 yX0_number ∈ gtbl := g_at 678 gwb_5.2.2.2.1
set_option maxRecDepth 100000 in
theorem gn_X0_number : Cond.instanceMethod yX0_number ∈ gtbl := g_at 679 gwb_5.2.2.2.2.1
set_option maxRecDepth 100000 in
theorem gs_X0_number : Cond.selects (fR 0) yX0_number yX0_number ∈ gtbl := g_at 680 gwb_5.2.2.2.2.2.1
set_option maxRecDepth 100000 in
theorem gp1_X0_number : (parseMethodDescriptor yX0_number.desc).map (fun d => d.parameters.length + 1) = some 4 := by decide +kernel
set_option maxRecDepth 100000 in
theorem gc_X0_number : Cond.code yX0_number cX0_number 5 (some .int) ∈ gtbl := g_at 681 gwb_5.2.2.2.2.2.2.1
set_option maxRecDepth 100000 in
theorem gi_X0_number : Cond.initialized yX0_number.cls ∈ gtbl := g_at 81 gwb_5.2.2.2.2.2.2.2
set_option maxRecDepth 100000 in
theorem gh_X0_number : yX0_number.cls ≠ "java/lang/invoke/MethodHandle" ∧ yX0_number.cls ≠ "java/lang/invoke/VarHandle" := ⟨by decide +kernel, by decide +kernel⟩
set_option maxRecDepth 100000 in
theorem gwb_6 : (lw_tbl[683]? = some (Cond.methodLink RX0 89 yX5_end) ∧ goodWord (Cond.methodLink RX0 89 yX5_end) = true) ∧ (lw_tbl[617]? = some (Cond.instanceMethod yX5_end) ∧ goodWord (Cond.instanceMethod yX5_end) = true) ∧ (lw_tbl[618]? = some (Cond.selects (fR 5) yX5_end yX5_end) ∧ goodWord (Cond.selects (fR 5) yX5_end yX5_end) = true) ∧ (lw_tbl[619]? = some (Cond.code yX5_end cX5_end 2 (some .int)) ∧ goodWord (Cond.code yX5_end cX5_end 2 (some .int)) = true) ∧ (lw_tbl[79]? = some (Cond.initialized yX5_end.cls) ∧ goodWord (Cond.initialized yX5_end.cls) = true) ∧ (lw_tbl[684]? = some (Cond.methodLink RX0 96 yX0_termMade) ∧ goodWord (Cond.methodLink RX0 96 yX0_termMade) = true) ∧ (lw_tbl[686]? = some (Cond.instanceMethod yX0_termMade) ∧ goodWord (Cond.instanceMethod yX0_termMade) = true) ∧ (lw_tbl[17]? = some (Cond.selects (fR 0) yX0_termMade yX0_termMade) ∧ goodWord (Cond.selects (fR 0) yX0_termMade yX0_termMade) = true) := by decide +kernel
set_option maxRecDepth 100000 in
theorem gl_RX0_89 : Cond.methodLink RX0 89 yX5_end ∈ gtbl := g_at 683 gwb_6.1
set_option maxRecDepth 100000 in
theorem gn_X5_end : Cond.instanceMethod yX5_end ∈ gtbl := g_at 617 gwb_6.2.1
set_option maxRecDepth 100000 in
theorem gs_X5_end : Cond.selects (fR 5) yX5_end yX5_end ∈ gtbl := g_at 618 gwb_6.2.2.1
set_option maxRecDepth 100000 in
theorem gp1_X5_end : (parseMethodDescriptor yX5_end.desc).map (fun d => d.parameters.length + 1) = some 2 := by decide +kernel
set_option maxRecDepth 100000 in
theorem gc_X5_end : Cond.code yX5_end cX5_end 2 (some .int) ∈ gtbl := g_at 619 gwb_6.2.2.2.1
set_option maxRecDepth 100000 in
theorem gi_X5_end : Cond.initialized yX5_end.cls ∈ gtbl := g_at 79 gwb_6.2.2.2.2.1
set_option maxRecDepth 100000 in
theorem gh_X5_end : yX5_end.cls ≠ "java/lang/invoke/MethodHandle" ∧ yX5_end.cls ≠ "java/lang/invoke/VarHandle" := ⟨by decide +kernel, by decide +kernel⟩
set_option maxRecDepth 100000 in
theorem gl_RX0_96 : Cond.methodLink RX0 96 yX0_termMade ∈ gtbl := g_at 684 gwb_6.2.2.2.2.2.1
set_option maxRecDepth 100000 in
theorem gn_X0_termMade : Cond.instanceMethod yX0_termMade ∈ gtbl := g_at 686 gwb_6.2.2.2.2.2.2.1
set_option maxRecDepth 100000 in
theorem gs_X0_termMade : Cond.selects (fR 0) yX0_termMade yX0_termMade ∈ gtbl := g_at 17 gwb_6.2.2.2.2.2.2.2
set_option maxRecDepth 100000 in
theorem gp1_X0_termMade : (parseMethodDescriptor yX0_termMade.desc).map (fun d => d.parameters.length + 1) = some 6 := by decide +kernel
set_option maxRecDepth 100000 in
theorem gwb_7 : (lw_tbl[687]? = some (Cond.code yX0_termMade cX0_termMade 11 (some .long)) ∧ goodWord (Cond.code yX0_termMade cX0_termMade 11 (some .long)) = true) ∧ (lw_tbl[81]? = some (Cond.initialized yX0_termMade.cls) ∧ goodWord (Cond.initialized yX0_termMade.cls) = true) ∧ (lw_tbl[708]? = some (Cond.methodLink RX0 102 yX5_divided) ∧ goodWord (Cond.methodLink RX0 102 yX5_divided) = true) ∧ (lw_tbl[709]? = some (Cond.instanceMethod yX5_divided) ∧ goodWord (Cond.instanceMethod yX5_divided) = true) ∧ (lw_tbl[710]? = some (Cond.selects (fR 5) yX5_divided yX5_divided) ∧ goodWord (Cond.selects (fR 5) yX5_divided yX5_divided) = true) ∧ (lw_tbl[711]? = some (Cond.code yX5_divided cX5_divided 8 (some .int)) ∧ goodWord (Cond.code yX5_divided cX5_divided 8 (some .int)) = true) ∧ (lw_tbl[79]? = some (Cond.initialized yX5_divided.cls) ∧ goodWord (Cond.initialized yX5_divided.cls) = true) ∧ (lw_tbl[688]? = some (Cond.methodLink RX0 109 yX0_named) ∧ goodWord (Cond.methodLink RX0 109 yX0_named) = true) := by decide +kernel
set_option maxRecDepth 100000 in
theorem gc_X0_termMade : Cond.code yX0_termMade cX0_termMade 11 (some .long) ∈ gtbl := g_at 687 gwb_7.1
set_option maxRecDepth 100000 in
theorem gi_X0_termMade : Cond.initialized yX0_termMade.cls ∈ gtbl := g_at 81 gwb_7.2.1
set_option maxRecDepth 100000 in
theorem gh_X0_termMade : yX0_termMade.cls ≠ "java/lang/invoke/MethodHandle" ∧ yX0_termMade.cls ≠ "java/lang/invoke/VarHandle" := ⟨by decide +kernel, by decide +kernel⟩
set_option maxRecDepth 100000 in
theorem gl_RX0_102 : Cond.methodLink RX0 102 yX5_divided ∈ gtbl := g_at 708 gwb_7.2.2.1
set_option maxRecDepth 100000 in
theorem gn_X5_divided : Cond.instanceMethod yX5_divided ∈ gtbl := g_at 709 gwb_7.2.2.2.1
set_option maxRecDepth 100000 in
theorem gs_X5_divided : Cond.selects (fR 5) yX5_divided yX5_divided ∈ gtbl := g_at 710 gwb_7.2.2.2.2.1
set_option maxRecDepth 100000 in
theorem gp1_X5_divided : (parseMethodDescriptor yX5_divided.desc).map (fun d => d.parameters.length + 1) = some 3 := by decide +kernel
set_option maxRecDepth 100000 in
theorem gc_X5_divided : Cond.code yX5_divided cX5_divided 8 (some .int) ∈ gtbl := g_at 711 gwb_7.2.2.2.2.2.1
set_option maxRecDepth 100000 in
theorem gi_X5_divided : Cond.initialized yX5_divided.cls ∈ gtbl := g_at 79 gwb_7.2.2.2.2.2.2.1
set_option maxRecDepth 100000 in
theorem gh_X5_divided : yX5_divided.cls ≠ "java/lang/invoke/MethodHandle" ∧ yX5_divided.cls ≠ "java/lang/invoke/VarHandle" := ⟨by decide +kernel, by decide +kernel⟩
set_option maxRecDepth 100000 in
theorem gl_RX0_109 : Cond.methodLink RX0 109 yX0_named ∈ gtbl := g_at 688 gwb_7.2.2.2.2.2.2.2
set_option maxRecDepth 100000 in
theorem gwb_8 : (lw_tbl[690]? = some (Cond.instanceMethod yX0_named) ∧ goodWord (Cond.instanceMethod yX0_named) = true) ∧ (lw_tbl[18]? = some (Cond.selects (fR 0) yX0_named yX0_named) ∧ goodWord (Cond.selects (fR 0) yX0_named yX0_named) = true) ∧ (lw_tbl[691]? = some (Cond.code yX0_named cX0_named 8 (some .int)) ∧ goodWord (Cond.code yX0_named cX0_named 8 (some .int)) = true) ∧ (lw_tbl[81]? = some (Cond.initialized yX0_named.cls) ∧ goodWord (Cond.initialized yX0_named.cls) = true) ∧ (lw_tbl[704]? = some (Cond.methodLink RX0 117 yJ9_abs_067f4) ∧ goodWord (Cond.methodLink RX0 117 yJ9_abs_067f4) = true) ∧ (lw_tbl[705]? = some (Cond.static yJ9_abs_067f4) ∧ goodWord (Cond.static yJ9_abs_067f4) = true) ∧ (lw_tbl[706]? = some (Cond.code yJ9_abs_067f4 prog_15_method_61_code 2 (some .long)) ∧ goodWord (Cond.code yJ9_abs_067f4 prog_15_method_61_code 2 (some .long)) = true) ∧ (lw_tbl[77]? = some (Cond.initialized yJ9_abs_067f4.cls) ∧ goodWord (Cond.initialized yJ9_abs_067f4.cls) = true) := by decide +kernel
set_option maxRecDepth 100000 in
theorem gn_X0_named : Cond.instanceMethod yX0_named ∈ gtbl := g_at 690 gwb_8.1
set_option maxRecDepth 100000 in
theorem gs_X0_named : Cond.selects (fR 0) yX0_named yX0_named ∈ gtbl := g_at 18 gwb_8.2.1
set_option maxRecDepth 100000 in
theorem gp1_X0_named : (parseMethodDescriptor yX0_named.desc).map (fun d => d.parameters.length + 1) = some 6 := by decide +kernel
set_option maxRecDepth 100000 in
theorem gc_X0_named : Cond.code yX0_named cX0_named 8 (some .int) ∈ gtbl := g_at 691 gwb_8.2.2.1
set_option maxRecDepth 100000 in
theorem gi_X0_named : Cond.initialized yX0_named.cls ∈ gtbl := g_at 81 gwb_8.2.2.2.1
set_option maxRecDepth 100000 in
theorem gh_X0_named : yX0_named.cls ≠ "java/lang/invoke/MethodHandle" ∧ yX0_named.cls ≠ "java/lang/invoke/VarHandle" := ⟨by decide +kernel, by decide +kernel⟩
set_option maxRecDepth 100000 in
theorem gl_RX0_117 : Cond.methodLink RX0 117 yJ9_abs_067f4 ∈ gtbl := g_at 704 gwb_8.2.2.2.2.1
set_option maxRecDepth 100000 in
theorem gt_J9_abs_067f4 : Cond.static yJ9_abs_067f4 ∈ gtbl := g_at 705 gwb_8.2.2.2.2.2.1
set_option maxRecDepth 100000 in
theorem gp0_J9_abs_067f4 : (parseMethodDescriptor yJ9_abs_067f4.desc).map (fun d => d.parameters.length) = some 1 := by decide +kernel
set_option maxRecDepth 100000 in
theorem gc_J9_abs_067f4 : Cond.code yJ9_abs_067f4 prog_15_method_61_code 2 (some .long) ∈ gtbl := g_at 706 gwb_8.2.2.2.2.2.2.1
set_option maxRecDepth 100000 in
theorem gi_J9_abs_067f4 : Cond.initialized yJ9_abs_067f4.cls ∈ gtbl := g_at 77 gwb_8.2.2.2.2.2.2.2
set_option maxRecDepth 100000 in
theorem gh_J9_abs_067f4 : yJ9_abs_067f4.cls ≠ "java/lang/invoke/MethodHandle" ∧ yJ9_abs_067f4.cls ≠ "java/lang/invoke/VarHandle" := ⟨by decide +kernel, by decide +kernel⟩
set_option maxRecDepth 100000 in
theorem gwb_9 : (lw_tbl[692]? = some (Cond.methodLink RX0 126 yX5_letterOf) ∧ goodWord (Cond.methodLink RX0 126 yX5_letterOf) = true) ∧ (lw_tbl[693]? = some (Cond.static yX5_letterOf) ∧ goodWord (Cond.static yX5_letterOf) = true) ∧ (lw_tbl[694]? = some (Cond.code yX5_letterOf cX5_letterOf 1 (some .int)) ∧ goodWord (Cond.code yX5_letterOf cX5_letterOf 1 (some .int)) = true) ∧ (lw_tbl[79]? = some (Cond.initialized yX5_letterOf.cls) ∧ goodWord (Cond.initialized yX5_letterOf.cls) = true) ∧ (lw_tbl[695]? = some (Cond.methodLink RX0 129 yX5_sideOf) ∧ goodWord (Cond.methodLink RX0 129 yX5_sideOf) = true) ∧ (lw_tbl[696]? = some (Cond.static yX5_sideOf) ∧ goodWord (Cond.static yX5_sideOf) = true) ∧ (lw_tbl[697]? = some (Cond.code yX5_sideOf cX5_sideOf 1 (some .int)) ∧ goodWord (Cond.code yX5_sideOf cX5_sideOf 1 (some .int)) = true) ∧ (lw_tbl[79]? = some (Cond.initialized yX5_sideOf.cls) ∧ goodWord (Cond.initialized yX5_sideOf.cls) = true) := by decide +kernel
set_option maxRecDepth 100000 in
theorem gl_RX0_126 : Cond.methodLink RX0 126 yX5_letterOf ∈ gtbl := g_at 692 gwb_9.1
set_option maxRecDepth 100000 in
theorem gt_X5_letterOf : Cond.static yX5_letterOf ∈ gtbl := g_at 693 gwb_9.2.1
set_option maxRecDepth 100000 in
theorem gp0_X5_letterOf : (parseMethodDescriptor yX5_letterOf.desc).map (fun d => d.parameters.length) = some 1 := by decide +kernel
set_option maxRecDepth 100000 in
theorem gc_X5_letterOf : Cond.code yX5_letterOf cX5_letterOf 1 (some .int) ∈ gtbl := g_at 694 gwb_9.2.2.1
set_option maxRecDepth 100000 in
theorem gi_X5_letterOf : Cond.initialized yX5_letterOf.cls ∈ gtbl := g_at 79 gwb_9.2.2.2.1
set_option maxRecDepth 100000 in
theorem gh_X5_letterOf : yX5_letterOf.cls ≠ "java/lang/invoke/MethodHandle" ∧ yX5_letterOf.cls ≠ "java/lang/invoke/VarHandle" := ⟨by decide +kernel, by decide +kernel⟩
set_option maxRecDepth 100000 in
theorem gl_RX0_129 : Cond.methodLink RX0 129 yX5_sideOf ∈ gtbl := g_at 695 gwb_9.2.2.2.2.1
set_option maxRecDepth 100000 in
theorem gt_X5_sideOf : Cond.static yX5_sideOf ∈ gtbl := g_at 696 gwb_9.2.2.2.2.2.1
set_option maxRecDepth 100000 in
theorem gp0_X5_sideOf : (parseMethodDescriptor yX5_sideOf.desc).map (fun d => d.parameters.length) = some 1 := by decide +kernel
set_option maxRecDepth 100000 in
theorem gc_X5_sideOf : Cond.code yX5_sideOf cX5_sideOf 1 (some .int) ∈ gtbl := g_at 697 gwb_9.2.2.2.2.2.2.1
set_option maxRecDepth 100000 in
theorem gi_X5_sideOf : Cond.initialized yX5_sideOf.cls ∈ gtbl := g_at 79 gwb_9.2.2.2.2.2.2.2
set_option maxRecDepth 100000 in
theorem gh_X5_sideOf : yX5_sideOf.cls ≠ "java/lang/invoke/MethodHandle" ∧ yX5_sideOf.cls ≠ "java/lang/invoke/VarHandle" := ⟨by decide +kernel, by decide +kernel⟩
set_option maxRecDepth 100000 in
theorem gwb_10 : (lw_tbl[698]? = some (Cond.methodLink RX0 132 yX3_beside) ∧ goodWord (Cond.methodLink RX0 132 yX3_beside) = true) ∧ (lw_tbl[663]? = some (Cond.instanceMethod yX3_beside) ∧ goodWord (Cond.instanceMethod yX3_beside) = true) ∧ (lw_tbl[664]? = some (Cond.selects (fR 3) yX3_beside yX3_beside) ∧ goodWord (Cond.selects (fR 3) yX3_beside yX3_beside) = true) ∧ (lw_tbl[665]? = some (Cond.code yX3_beside cX3_beside 4 (some .int)) ∧ goodWord (Cond.code yX3_beside cX3_beside 4 (some .int)) = true) ∧ (lw_tbl[76]? = some (Cond.initialized yX3_beside.cls) ∧ goodWord (Cond.initialized yX3_beside.cls) = true) ∧ (lw_tbl[699]? = some (Cond.methodLink RX0 138 yX5_isNow) ∧ goodWord (Cond.methodLink RX0 138 yX5_isNow) = true) ∧ (lw_tbl[700]? = some (Cond.static yX5_isNow) ∧ goodWord (Cond.static yX5_isNow) = true) ∧ (lw_tbl[701]? = some (Cond.code yX5_isNow cX5_isNow 1 (some .boolean)) ∧ goodWord (Cond.code yX5_isNow cX5_isNow 1 (some .boolean)) = true) := by decide +kernel
set_option maxRecDepth 100000 in
theorem gl_RX0_132 : Cond.methodLink RX0 132 yX3_beside ∈ gtbl := g_at 698 gwb_10.1
set_option maxRecDepth 100000 in
theorem gn_X3_beside : Cond.instanceMethod yX3_beside ∈ gtbl := g_at 663 gwb_10.2.1
set_option maxRecDepth 100000 in
theorem gs_X3_beside : Cond.selects (fR 3) yX3_beside yX3_beside ∈ gtbl := g_at 664 gwb_10.2.2.1
set_option maxRecDepth 100000 in
theorem gp1_X3_beside : (parseMethodDescriptor yX3_beside.desc).map (fun d => d.parameters.length + 1) = some 3 := by decide +kernel
set_option maxRecDepth 100000 in
theorem gc_X3_beside : Cond.code yX3_beside cX3_beside 4 (some .int) ∈ gtbl := g_at 665 gwb_10.2.2.2.1
set_option maxRecDepth 100000 in
theorem gi_X3_beside : Cond.initialized yX3_beside.cls ∈ gtbl := g_at 76 gwb_10.2.2.2.2.1
set_option maxRecDepth 100000 in
theorem gh_X3_beside : yX3_beside.cls ≠ "java/lang/invoke/MethodHandle" ∧ yX3_beside.cls ≠ "java/lang/invoke/VarHandle" := ⟨by decide +kernel, by decide +kernel⟩
set_option maxRecDepth 100000 in
theorem gl_RX0_138 : Cond.methodLink RX0 138 yX5_isNow ∈ gtbl := g_at 699 gwb_10.2.2.2.2.2.1
set_option maxRecDepth 100000 in
theorem gt_X5_isNow : Cond.static yX5_isNow ∈ gtbl := g_at 700 gwb_10.2.2.2.2.2.2.1
set_option maxRecDepth 100000 in
theorem gp0_X5_isNow : (parseMethodDescriptor yX5_isNow.desc).map (fun d => d.parameters.length) = some 1 := by decide +kernel
set_option maxRecDepth 100000 in
theorem gc_X5_isNow : Cond.code yX5_isNow cX5_isNow 1 (some .boolean) ∈ gtbl := g_at 701 gwb_10.2.2.2.2.2.2.2
set_option maxRecDepth 100000 in
theorem gwb_11 : (lw_tbl[79]? = some (Cond.initialized yX5_isNow.cls) ∧ goodWord (Cond.initialized yX5_isNow.cls) = true) ∧ (lw_tbl[777]? = some (Cond.methodLink RX0 145 yX0_counted) ∧ goodWord (Cond.methodLink RX0 145 yX0_counted) = true) ∧ (lw_tbl[779]? = some (Cond.instanceMethod yX0_counted) ∧ goodWord (Cond.instanceMethod yX0_counted) = true) ∧ (lw_tbl[24]? = some (Cond.selects (fR 0) yX0_counted yX0_counted) ∧ goodWord (Cond.selects (fR 0) yX0_counted yX0_counted) = true) ∧ (lw_tbl[780]? = some (Cond.code yX0_counted cX0_counted 5 (some .int)) ∧ goodWord (Cond.code yX0_counted cX0_counted 5 (some .int)) = true) ∧ (lw_tbl[81]? = some (Cond.initialized yX0_counted.cls) ∧ goodWord (Cond.initialized yX0_counted.cls) = true) ∧ (lw_tbl[330]? = some (Cond.methodLink RX1 28 yX1_clearTold) ∧ goodWord (Cond.methodLink RX1 28 yX1_clearTold) = true) ∧ (lw_tbl[331]? = some (Cond.instanceMethod yX1_clearTold) ∧ goodWord (Cond.instanceMethod yX1_clearTold) = true) := by decide +kernel
set_option maxRecDepth 100000 in
theorem gi_X5_isNow : Cond.initialized yX5_isNow.cls ∈ gtbl := g_at 79 gwb_11.1
set_option maxRecDepth 100000 in
theorem gh_X5_isNow : yX5_isNow.cls ≠ "java/lang/invoke/MethodHandle" ∧ yX5_isNow.cls ≠ "java/lang/invoke/VarHandle" := ⟨by decide +kernel, by decide +kernel⟩
set_option maxRecDepth 100000 in
theorem gl_RX0_145 : Cond.methodLink RX0 145 yX0_counted ∈ gtbl := g_at 777 gwb_11.2.1
set_option maxRecDepth 100000 in
theorem gn_X0_counted : Cond.instanceMethod yX0_counted ∈ gtbl := g_at 779 gwb_11.2.2.1
set_option maxRecDepth 100000 in
theorem gs_X0_counted : Cond.selects (fR 0) yX0_counted yX0_counted ∈ gtbl := g_at 24 gwb_11.2.2.2.1
set_option maxRecDepth 100000 in
theorem gp1_X0_counted : (parseMethodDescriptor yX0_counted.desc).map (fun d => d.parameters.length + 1) = some 4 := by decide +kernel
set_option maxRecDepth 100000 in
theorem gc_X0_counted : Cond.code yX0_counted cX0_counted 5 (some .int) ∈ gtbl := g_at 780 gwb_11.2.2.2.2.1
set_option maxRecDepth 100000 in
theorem gi_X0_counted : Cond.initialized yX0_counted.cls ∈ gtbl := g_at 81 gwb_11.2.2.2.2.2.1
set_option maxRecDepth 100000 in
theorem gh_X0_counted : yX0_counted.cls ≠ "java/lang/invoke/MethodHandle" ∧ yX0_counted.cls ≠ "java/lang/invoke/VarHandle" := ⟨by decide +kernel, by decide +kernel⟩
set_option maxRecDepth 100000 in
theorem gl_RX1_28 : Cond.methodLink RX1 28 yX1_clearTold ∈ gtbl := g_at 330 gwb_11.2.2.2.2.2.2.1
set_option maxRecDepth 100000 in
theorem gn_X1_clearTold : Cond.instanceMethod yX1_clearTold ∈ gtbl := g_at 331 gwb_11.2.2.2.2.2.2.2
set_option maxRecDepth 100000 in
theorem gwb_12 : (lw_tbl[332]? = some (Cond.selects (fR 1) yX1_clearTold yX1_clearTold) ∧ goodWord (Cond.selects (fR 1) yX1_clearTold yX1_clearTold) = true) ∧ (lw_tbl[333]? = some (Cond.code yX1_clearTold cX1_clearTold 2 none) ∧ goodWord (Cond.code yX1_clearTold cX1_clearTold 2 none) = true) ∧ (lw_tbl[83]? = some (Cond.initialized yX1_clearTold.cls) ∧ goodWord (Cond.initialized yX1_clearTold.cls) = true) ∧ (lw_tbl[861]? = some (Cond.methodLink RX1 45 yX0_rowSum) ∧ goodWord (Cond.methodLink RX1 45 yX0_rowSum) = true) ∧ (lw_tbl[774]? = some (Cond.instanceMethod yX0_rowSum) ∧ goodWord (Cond.instanceMethod yX0_rowSum) = true) ∧ (lw_tbl[775]? = some (Cond.selects (fR 0) yX0_rowSum yX0_rowSum) ∧ goodWord (Cond.selects (fR 0) yX0_rowSum yX0_rowSum) = true) ∧ (lw_tbl[776]? = some (Cond.code yX0_rowSum cX0_rowSum 8 (some .long)) ∧ goodWord (Cond.code yX0_rowSum cX0_rowSum 8 (some .long)) = true) ∧ (lw_tbl[81]? = some (Cond.initialized yX0_rowSum.cls) ∧ goodWord (Cond.initialized yX0_rowSum.cls) = true) := by decide +kernel
set_option maxRecDepth 100000 in
theorem gs_X1_clearTold : Cond.selects (fR 1) yX1_clearTold yX1_clearTold ∈ gtbl := g_at 332 gwb_12.1
set_option maxRecDepth 100000 in
theorem gp1_X1_clearTold : (parseMethodDescriptor yX1_clearTold.desc).map (fun d => d.parameters.length + 1) = some 1 := by decide +kernel
set_option maxRecDepth 100000 in
theorem gc_X1_clearTold : Cond.code yX1_clearTold cX1_clearTold 2 none ∈ gtbl := g_at 333 gwb_12.2.1
set_option maxRecDepth 100000 in
theorem gi_X1_clearTold : Cond.initialized yX1_clearTold.cls ∈ gtbl := g_at 83 gwb_12.2.2.1
set_option maxRecDepth 100000 in
theorem gh_X1_clearTold : yX1_clearTold.cls ≠ "java/lang/invoke/MethodHandle" ∧ yX1_clearTold.cls ≠ "java/lang/invoke/VarHandle" := ⟨by decide +kernel, by decide +kernel⟩
set_option maxRecDepth 100000 in
theorem gl_RX1_45 : Cond.methodLink RX1 45 yX0_rowSum ∈ gtbl := g_at 861 gwb_12.2.2.2.1
set_option maxRecDepth 100000 in
theorem gn_X0_rowSum : Cond.instanceMethod yX0_rowSum ∈ gtbl := g_at 774 gwb_12.2.2.2.2.1
set_option maxRecDepth 100000 in
theorem gs_X0_rowSum : Cond.selects (fR 0) yX0_rowSum yX0_rowSum ∈ gtbl := g_at 775 gwb_12.2.2.2.2.2.1
set_option maxRecDepth 100000 in
theorem gp1_X0_rowSum : (parseMethodDescriptor yX0_rowSum.desc).map (fun d => d.parameters.length + 1) = some 5 := by decide +kernel
set_option maxRecDepth 100000 in
theorem gc_X0_rowSum : Cond.code yX0_rowSum cX0_rowSum 8 (some .long) ∈ gtbl := g_at 776 gwb_12.2.2.2.2.2.2.1
set_option maxRecDepth 100000 in
theorem gi_X0_rowSum : Cond.initialized yX0_rowSum.cls ∈ gtbl := g_at 81 gwb_12.2.2.2.2.2.2.2
set_option maxRecDepth 100000 in
theorem gh_X0_rowSum : yX0_rowSum.cls ≠ "java/lang/invoke/MethodHandle" ∧ yX0_rowSum.cls ≠ "java/lang/invoke/VarHandle" := ⟨by decide +kernel, by decide +kernel⟩
set_option maxRecDepth 100000 in
theorem gwb_13 : (lw_tbl[862]? = some (Cond.methodLink RX1 54 yX0_columnSum) ∧ goodWord (Cond.methodLink RX1 54 yX0_columnSum) = true) ∧ (lw_tbl[863]? = some (Cond.instanceMethod yX0_columnSum) ∧ goodWord (Cond.instanceMethod yX0_columnSum) = true) ∧ (lw_tbl[864]? = some (Cond.selects (fR 0) yX0_columnSum yX0_columnSum) ∧ goodWord (Cond.selects (fR 0) yX0_columnSum yX0_columnSum) = true) ∧ (lw_tbl[865]? = some (Cond.code yX0_columnSum cX0_columnSum 8 (some .long)) ∧ goodWord (Cond.code yX0_columnSum cX0_columnSum 8 (some .long)) = true) ∧ (lw_tbl[81]? = some (Cond.initialized yX0_columnSum.cls) ∧ goodWord (Cond.initialized yX0_columnSum.cls) = true) ∧ (lw_tbl[878]? = some (Cond.methodLink RX1 57 yX1_addLack) ∧ goodWord (Cond.methodLink RX1 57 yX1_addLack) = true) ∧ (lw_tbl[880]? = some (Cond.instanceMethod yX1_addLack) ∧ goodWord (Cond.instanceMethod yX1_addLack) = true) ∧ (lw_tbl[29]? = some (Cond.selects (fR 1) yX1_addLack yX1_addLack) ∧ goodWord (Cond.selects (fR 1) yX1_addLack yX1_addLack) = true) := by decide +kernel
set_option maxRecDepth 100000 in
theorem gl_RX1_54 : Cond.methodLink RX1 54 yX0_columnSum ∈ gtbl := g_at 862 gwb_13.1
set_option maxRecDepth 100000 in
theorem gn_X0_columnSum : Cond.instanceMethod yX0_columnSum ∈ gtbl := g_at 863 gwb_13.2.1
set_option maxRecDepth 100000 in
theorem gs_X0_columnSum : Cond.selects (fR 0) yX0_columnSum yX0_columnSum ∈ gtbl := g_at 864 gwb_13.2.2.1
set_option maxRecDepth 100000 in
theorem gp1_X0_columnSum : (parseMethodDescriptor yX0_columnSum.desc).map (fun d => d.parameters.length + 1) = some 5 := by decide +kernel
set_option maxRecDepth 100000 in
theorem gc_X0_columnSum : Cond.code yX0_columnSum cX0_columnSum 8 (some .long) ∈ gtbl := g_at 865 gwb_13.2.2.2.1
set_option maxRecDepth 100000 in
theorem gi_X0_columnSum : Cond.initialized yX0_columnSum.cls ∈ gtbl := g_at 81 gwb_13.2.2.2.2.1
set_option maxRecDepth 100000 in
theorem gh_X0_columnSum : yX0_columnSum.cls ≠ "java/lang/invoke/MethodHandle" ∧ yX0_columnSum.cls ≠ "java/lang/invoke/VarHandle" := ⟨by decide +kernel, by decide +kernel⟩
set_option maxRecDepth 100000 in
theorem gl_RX1_57 : Cond.methodLink RX1 57 yX1_addLack ∈ gtbl := g_at 878 gwb_13.2.2.2.2.2.1
set_option maxRecDepth 100000 in
theorem gn_X1_addLack : Cond.instanceMethod yX1_addLack ∈ gtbl := g_at 880 gwb_13.2.2.2.2.2.2.1
set_option maxRecDepth 100000 in
theorem gs_X1_addLack : Cond.selects (fR 1) yX1_addLack yX1_addLack ∈ gtbl := g_at 29 gwb_13.2.2.2.2.2.2.2
set_option maxRecDepth 100000 in
theorem gp1_X1_addLack : (parseMethodDescriptor yX1_addLack.desc).map (fun d => d.parameters.length + 1) = some 3 := by decide +kernel
set_option maxRecDepth 100000 in
theorem gwb_14 : (lw_tbl[881]? = some (Cond.code yX1_addLack cX1_addLack 4 (some .int)) ∧ goodWord (Cond.code yX1_addLack cX1_addLack 4 (some .int)) = true) ∧ (lw_tbl[83]? = some (Cond.initialized yX1_addLack.cls) ∧ goodWord (Cond.initialized yX1_addLack.cls) = true) ∧ (lw_tbl[882]? = some (Cond.methodLink RX1 61 yX1_mostParts) ∧ goodWord (Cond.methodLink RX1 61 yX1_mostParts) = true) ∧ (lw_tbl[884]? = some (Cond.instanceMethod yX1_mostParts) ∧ goodWord (Cond.instanceMethod yX1_mostParts) = true) ∧ (lw_tbl[30]? = some (Cond.selects (fR 1) yX1_mostParts yX1_mostParts) ∧ goodWord (Cond.selects (fR 1) yX1_mostParts yX1_mostParts) = true) ∧ (lw_tbl[885]? = some (Cond.code yX1_mostParts cX1_mostParts 5 (some .int)) ∧ goodWord (Cond.code yX1_mostParts cX1_mostParts 5 (some .int)) = true) ∧ (lw_tbl[83]? = some (Cond.initialized yX1_mostParts.cls) ∧ goodWord (Cond.initialized yX1_mostParts.cls) = true) ∧ (lw_tbl[886]? = some (Cond.methodLink RX1 65 yX1_findEvenSets) ∧ goodWord (Cond.methodLink RX1 65 yX1_findEvenSets) = true) := by decide +kernel
set_option maxRecDepth 100000 in
theorem gc_X1_addLack : Cond.code yX1_addLack cX1_addLack 4 (some .int) ∈ gtbl := g_at 881 gwb_14.1
set_option maxRecDepth 100000 in
theorem gi_X1_addLack : Cond.initialized yX1_addLack.cls ∈ gtbl := g_at 83 gwb_14.2.1
set_option maxRecDepth 100000 in
theorem gh_X1_addLack : yX1_addLack.cls ≠ "java/lang/invoke/MethodHandle" ∧ yX1_addLack.cls ≠ "java/lang/invoke/VarHandle" := ⟨by decide +kernel, by decide +kernel⟩
set_option maxRecDepth 100000 in
theorem gl_RX1_61 : Cond.methodLink RX1 61 yX1_mostParts ∈ gtbl := g_at 882 gwb_14.2.2.1
set_option maxRecDepth 100000 in
theorem gn_X1_mostParts : Cond.instanceMethod yX1_mostParts ∈ gtbl := g_at 884 gwb_14.2.2.2.1
set_option maxRecDepth 100000 in
theorem gs_X1_mostParts : Cond.selects (fR 1) yX1_mostParts yX1_mostParts ∈ gtbl := g_at 30 gwb_14.2.2.2.2.1
set_option maxRecDepth 100000 in
theorem gp1_X1_mostParts : (parseMethodDescriptor yX1_mostParts.desc).map (fun d => d.parameters.length + 1) = some 3 := by decide +kernel
set_option maxRecDepth 100000 in
theorem gc_X1_mostParts : Cond.code yX1_mostParts cX1_mostParts 5 (some .int) ∈ gtbl := g_at 885 gwb_14.2.2.2.2.2.1
set_option maxRecDepth 100000 in
theorem gi_X1_mostParts : Cond.initialized yX1_mostParts.cls ∈ gtbl := g_at 83 gwb_14.2.2.2.2.2.2.1
set_option maxRecDepth 100000 in
theorem gh_X1_mostParts : yX1_mostParts.cls ≠ "java/lang/invoke/MethodHandle" ∧ yX1_mostParts.cls ≠ "java/lang/invoke/VarHandle" := ⟨by decide +kernel, by decide +kernel⟩
set_option maxRecDepth 100000 in
theorem gl_RX1_65 : Cond.methodLink RX1 65 yX1_findEvenSets ∈ gtbl := g_at 886 gwb_14.2.2.2.2.2.2.2
set_option maxRecDepth 100000 in
theorem gwb_15 : (lw_tbl[888]? = some (Cond.instanceMethod yX1_findEvenSets) ∧ goodWord (Cond.instanceMethod yX1_findEvenSets) = true) ∧ (lw_tbl[31]? = some (Cond.selects (fR 1) yX1_findEvenSets yX1_findEvenSets) ∧ goodWord (Cond.selects (fR 1) yX1_findEvenSets yX1_findEvenSets) = true) ∧ (lw_tbl[889]? = some (Cond.code yX1_findEvenSets cX1_findEvenSets 7 none) ∧ goodWord (Cond.code yX1_findEvenSets cX1_findEvenSets 7 none) = true) ∧ (lw_tbl[83]? = some (Cond.initialized yX1_findEvenSets.cls) ∧ goodWord (Cond.initialized yX1_findEvenSets.cls) = true) ∧ (lw_tbl[894]? = some (Cond.methodLink RX1 69 yX1_partsOf) ∧ goodWord (Cond.methodLink RX1 69 yX1_partsOf) = true) ∧ (lw_tbl[896]? = some (Cond.instanceMethod yX1_partsOf) ∧ goodWord (Cond.instanceMethod yX1_partsOf) = true) ∧ (lw_tbl[32]? = some (Cond.selects (fR 1) yX1_partsOf yX1_partsOf) ∧ goodWord (Cond.selects (fR 1) yX1_partsOf yX1_partsOf) = true) ∧ (lw_tbl[897]? = some (Cond.code yX1_partsOf cX1_partsOf 7 (some .int)) ∧ goodWord (Cond.code yX1_partsOf cX1_partsOf 7 (some .int)) = true) := by decide +kernel
set_option maxRecDepth 100000 in
theorem gn_X1_findEvenSets : Cond.instanceMethod yX1_findEvenSets ∈ gtbl := g_at 888 gwb_15.1
set_option maxRecDepth 100000 in
theorem gs_X1_findEvenSets : Cond.selects (fR 1) yX1_findEvenSets yX1_findEvenSets ∈ gtbl := g_at 31 gwb_15.2.1
set_option maxRecDepth 100000 in
theorem gp1_X1_findEvenSets : (parseMethodDescriptor yX1_findEvenSets.desc).map (fun d => d.parameters.length + 1) = some 2 := by decide +kernel
set_option maxRecDepth 100000 in
theorem gc_X1_findEvenSets : Cond.code yX1_findEvenSets cX1_findEvenSets 7 none ∈ gtbl := g_at 889 gwb_15.2.2.1
set_option maxRecDepth 100000 in
theorem gi_X1_findEvenSets : Cond.initialized yX1_findEvenSets.cls ∈ gtbl := g_at 83 gwb_15.2.2.2.1
set_option maxRecDepth 100000 in
theorem gh_X1_findEvenSets : yX1_findEvenSets.cls ≠ "java/lang/invoke/MethodHandle" ∧ yX1_findEvenSets.cls ≠ "java/lang/invoke/VarHandle" := ⟨by decide +kernel, by decide +kernel⟩
set_option maxRecDepth 100000 in
theorem gl_RX1_69 : Cond.methodLink RX1 69 yX1_partsOf ∈ gtbl := g_at 894 gwb_15.2.2.2.2.1
set_option maxRecDepth 100000 in
theorem gn_X1_partsOf : Cond.instanceMethod yX1_partsOf ∈ gtbl := g_at 896 gwb_15.2.2.2.2.2.1
set_option maxRecDepth 100000 in
theorem gs_X1_partsOf : Cond.selects (fR 1) yX1_partsOf yX1_partsOf ∈ gtbl := g_at 32 gwb_15.2.2.2.2.2.2.1
set_option maxRecDepth 100000 in
theorem gp1_X1_partsOf : (parseMethodDescriptor yX1_partsOf.desc).map (fun d => d.parameters.length + 1) = some 3 := by decide +kernel
set_option maxRecDepth 100000 in
theorem gc_X1_partsOf : Cond.code yX1_partsOf cX1_partsOf 7 (some .int) ∈ gtbl := g_at 897 gwb_15.2.2.2.2.2.2.2
set_option maxRecDepth 100000 in
theorem gwb_16 : (lw_tbl[83]? = some (Cond.initialized yX1_partsOf.cls) ∧ goodWord (Cond.initialized yX1_partsOf.cls) = true) ∧ (lw_tbl[898]? = some (Cond.methodLink RX1 72 yJ9_max_7cf53) ∧ goodWord (Cond.methodLink RX1 72 yJ9_max_7cf53) = true) ∧ (lw_tbl[890]? = some (Cond.methodLink RX1 77 yJ6_numberOfTrailingZeros_0f7a4) ∧ goodWord (Cond.methodLink RX1 77 yJ6_numberOfTrailingZeros_0f7a4) = true) ∧ (lw_tbl[891]? = some (Cond.static yJ6_numberOfTrailingZeros_0f7a4) ∧ goodWord (Cond.static yJ6_numberOfTrailingZeros_0f7a4) = true) ∧ (lw_tbl[892]? = some (Cond.code yJ6_numberOfTrailingZeros_0f7a4 prog_14_method_48_code 2 (some .int)) ∧ goodWord (Cond.code yJ6_numberOfTrailingZeros_0f7a4 prog_14_method_48_code 2 (some .int)) = true) ∧ (lw_tbl[88]? = some (Cond.initialized yJ6_numberOfTrailingZeros_0f7a4.cls) ∧ goodWord (Cond.initialized yJ6_numberOfTrailingZeros_0f7a4.cls) = true) ∧ (lw_tbl[103]? = some (Cond.methodLink RX3 15 yX3_shape) ∧ goodWord (Cond.methodLink RX3 15 yX3_shape) = true) ∧ (lw_tbl[104]? = some (Cond.instanceMethod yX3_shape) ∧ goodWord (Cond.instanceMethod yX3_shape) = true) := by decide +kernel
set_option maxRecDepth 100000 in
theorem gi_X1_partsOf : Cond.initialized yX1_partsOf.cls ∈ gtbl := g_at 83 gwb_16.1
set_option maxRecDepth 100000 in
theorem gh_X1_partsOf : yX1_partsOf.cls ≠ "java/lang/invoke/MethodHandle" ∧ yX1_partsOf.cls ≠ "java/lang/invoke/VarHandle" := ⟨by decide +kernel, by decide +kernel⟩
set_option maxRecDepth 100000 in
theorem gl_RX1_72 : Cond.methodLink RX1 72 yJ9_max_7cf53 ∈ gtbl := g_at 898 gwb_16.2.1
set_option maxRecDepth 100000 in
theorem gl_RX1_77 : Cond.methodLink RX1 77 yJ6_numberOfTrailingZeros_0f7a4 ∈ gtbl := g_at 890 gwb_16.2.2.1
set_option maxRecDepth 100000 in
theorem gt_J6_numberOfTrailingZeros_0f7a4 : Cond.static yJ6_numberOfTrailingZeros_0f7a4 ∈ gtbl := g_at 891 gwb_16.2.2.2.1
set_option maxRecDepth 100000 in
theorem gp0_J6_numberOfTrailingZeros_0f7a4 : (parseMethodDescriptor yJ6_numberOfTrailingZeros_0f7a4.desc).map (fun d => d.parameters.length) = some 1 := by decide +kernel
set_option maxRecDepth 100000 in
theorem gc_J6_numberOfTrailingZeros_0f7a4 : Cond.code yJ6_numberOfTrailingZeros_0f7a4 prog_14_method_48_code 2 (some .int) ∈ gtbl := g_at 892 gwb_16.2.2.2.2.1
set_option maxRecDepth 100000 in
theorem gi_J6_numberOfTrailingZeros_0f7a4 : Cond.initialized yJ6_numberOfTrailingZeros_0f7a4.cls ∈ gtbl := g_at 88 gwb_16.2.2.2.2.2.1
set_option maxRecDepth 100000 in
theorem gh_J6_numberOfTrailingZeros_0f7a4 : yJ6_numberOfTrailingZeros_0f7a4.cls ≠ "java/lang/invoke/MethodHandle" ∧ yJ6_numberOfTrailingZeros_0f7a4.cls ≠ "java/lang/invoke/VarHandle" := ⟨by decide +kernel, by decide +kernel⟩
set_option maxRecDepth 100000 in
theorem gl_RX3_15 : Cond.methodLink RX3 15 yX3_shape ∈ gtbl := g_at 103 gwb_16.2.2.2.2.2.2.1
set_option maxRecDepth 100000 in
theorem gn_X3_shape : Cond.instanceMethod yX3_shape ∈ gtbl := g_at 104 gwb_16.2.2.2.2.2.2.2
set_option maxRecDepth 100000 in
theorem gwb_17 : (lw_tbl[105]? = some (Cond.selects (fR 3) yX3_shape yX3_shape) ∧ goodWord (Cond.selects (fR 3) yX3_shape yX3_shape) = true) ∧ (lw_tbl[106]? = some (Cond.code yX3_shape cX3_shape 7 none) ∧ goodWord (Cond.code yX3_shape cX3_shape 7 none) = true) ∧ (lw_tbl[76]? = some (Cond.initialized yX3_shape.cls) ∧ goodWord (Cond.initialized yX3_shape.cls) = true) ∧ (lw_tbl[107]? = some (Cond.methodLink RX3 19 yJ9_min_7cf53) ∧ goodWord (Cond.methodLink RX3 19 yJ9_min_7cf53) = true) ∧ (lw_tbl[110]? = some (Cond.methodLink RX3 25 yJ9_max_7cf53) ∧ goodWord (Cond.methodLink RX3 25 yJ9_max_7cf53) = true) ∧ (lw_tbl[113]? = some (Cond.methodLink RX3 38 yX3_found) ∧ goodWord (Cond.methodLink RX3 38 yX3_found) = true) ∧ (lw_tbl[115]? = some (Cond.instanceMethod yX3_found) ∧ goodWord (Cond.instanceMethod yX3_found) = true) ∧ (lw_tbl[0]? = some (Cond.selects (fR 3) yX3_found yX3_found) ∧ goodWord (Cond.selects (fR 3) yX3_found yX3_found) = true) := by decide +kernel
set_option maxRecDepth 100000 in
theorem gs_X3_shape : Cond.selects (fR 3) yX3_shape yX3_shape ∈ gtbl := g_at 105 gwb_17.1
set_option maxRecDepth 100000 in
theorem gp1_X3_shape : (parseMethodDescriptor yX3_shape.desc).map (fun d => d.parameters.length + 1) = some 4 := by decide +kernel
set_option maxRecDepth 100000 in
theorem gc_X3_shape : Cond.code yX3_shape cX3_shape 7 none ∈ gtbl := g_at 106 gwb_17.2.1
set_option maxRecDepth 100000 in
theorem gi_X3_shape : Cond.initialized yX3_shape.cls ∈ gtbl := g_at 76 gwb_17.2.2.1
set_option maxRecDepth 100000 in
theorem gh_X3_shape : yX3_shape.cls ≠ "java/lang/invoke/MethodHandle" ∧ yX3_shape.cls ≠ "java/lang/invoke/VarHandle" := ⟨by decide +kernel, by decide +kernel⟩
set_option maxRecDepth 100000 in
theorem gl_RX3_19 : Cond.methodLink RX3 19 yJ9_min_7cf53 ∈ gtbl := g_at 107 gwb_17.2.2.2.1
set_option maxRecDepth 100000 in
theorem gl_RX3_25 : Cond.methodLink RX3 25 yJ9_max_7cf53 ∈ gtbl := g_at 110 gwb_17.2.2.2.2.1
set_option maxRecDepth 100000 in
theorem gl_RX3_38 : Cond.methodLink RX3 38 yX3_found ∈ gtbl := g_at 113 gwb_17.2.2.2.2.2.1
set_option maxRecDepth 100000 in
theorem gn_X3_found : Cond.instanceMethod yX3_found ∈ gtbl := g_at 115 gwb_17.2.2.2.2.2.2.1
set_option maxRecDepth 100000 in
theorem gs_X3_found : Cond.selects (fR 3) yX3_found yX3_found ∈ gtbl := g_at 0 gwb_17.2.2.2.2.2.2.2
set_option maxRecDepth 100000 in
theorem gp1_X3_found : (parseMethodDescriptor yX3_found.desc).map (fun d => d.parameters.length + 1) = some 5 := by decide +kernel
set_option maxRecDepth 100000 in
theorem gwb_18 : (lw_tbl[116]? = some (Cond.code yX3_found cX3_found 7 (some .int)) ∧ goodWord (Cond.code yX3_found cX3_found 7 (some .int)) = true) ∧ (lw_tbl[76]? = some (Cond.initialized yX3_found.cls) ∧ goodWord (Cond.initialized yX3_found.cls) = true) ∧ (lw_tbl[737]? = some (Cond.methodLink RX4 24 yX4_markGaps) ∧ goodWord (Cond.methodLink RX4 24 yX4_markGaps) = true) ∧ (lw_tbl[739]? = some (Cond.instanceMethod yX4_markGaps) ∧ goodWord (Cond.instanceMethod yX4_markGaps) = true) ∧ (lw_tbl[19]? = some (Cond.selects (fR 4) yX4_markGaps yX4_markGaps) ∧ goodWord (Cond.selects (fR 4) yX4_markGaps yX4_markGaps) = true) ∧ (lw_tbl[740]? = some (Cond.code yX4_markGaps cX4_markGaps 4 none) ∧ goodWord (Cond.code yX4_markGaps cX4_markGaps 4 none) = true) ∧ (lw_tbl[82]? = some (Cond.initialized yX4_markGaps.cls) ∧ goodWord (Cond.initialized yX4_markGaps.cls) = true) ∧ (lw_tbl[746]? = some (Cond.methodLink RX4 28 yX4_markCell) ∧ goodWord (Cond.methodLink RX4 28 yX4_markCell) = true) := by decide +kernel
set_option maxRecDepth 100000 in
theorem gc_X3_found : Cond.code yX3_found cX3_found 7 (some .int) ∈ gtbl := g_at 116 gwb_18.1
set_option maxRecDepth 100000 in
theorem gi_X3_found : Cond.initialized yX3_found.cls ∈ gtbl := g_at 76 gwb_18.2.1
set_option maxRecDepth 100000 in
theorem gh_X3_found : yX3_found.cls ≠ "java/lang/invoke/MethodHandle" ∧ yX3_found.cls ≠ "java/lang/invoke/VarHandle" := ⟨by decide +kernel, by decide +kernel⟩
set_option maxRecDepth 100000 in
theorem gl_RX4_24 : Cond.methodLink RX4 24 yX4_markGaps ∈ gtbl := g_at 737 gwb_18.2.2.1
set_option maxRecDepth 100000 in
theorem gn_X4_markGaps : Cond.instanceMethod yX4_markGaps ∈ gtbl := g_at 739 gwb_18.2.2.2.1
set_option maxRecDepth 100000 in
theorem gs_X4_markGaps : Cond.selects (fR 4) yX4_markGaps yX4_markGaps ∈ gtbl := g_at 19 gwb_18.2.2.2.2.1
set_option maxRecDepth 100000 in
theorem gp1_X4_markGaps : (parseMethodDescriptor yX4_markGaps.desc).map (fun d => d.parameters.length + 1) = some 3 := by decide +kernel
set_option maxRecDepth 100000 in
theorem gc_X4_markGaps : Cond.code yX4_markGaps cX4_markGaps 4 none ∈ gtbl := g_at 740 gwb_18.2.2.2.2.2.1
set_option maxRecDepth 100000 in
theorem gi_X4_markGaps : Cond.initialized yX4_markGaps.cls ∈ gtbl := g_at 82 gwb_18.2.2.2.2.2.2.1
set_option maxRecDepth 100000 in
theorem gh_X4_markGaps : yX4_markGaps.cls ≠ "java/lang/invoke/MethodHandle" ∧ yX4_markGaps.cls ≠ "java/lang/invoke/VarHandle" := ⟨by decide +kernel, by decide +kernel⟩
set_option maxRecDepth 100000 in
theorem gl_RX4_28 : Cond.methodLink RX4 28 yX4_markCell ∈ gtbl := g_at 746 gwb_18.2.2.2.2.2.2.2
set_option maxRecDepth 100000 in
theorem gwb_19 : (lw_tbl[748]? = some (Cond.instanceMethod yX4_markCell) ∧ goodWord (Cond.instanceMethod yX4_markCell) = true) ∧ (lw_tbl[21]? = some (Cond.selects (fR 4) yX4_markCell yX4_markCell) ∧ goodWord (Cond.selects (fR 4) yX4_markCell yX4_markCell) = true) ∧ (lw_tbl[749]? = some (Cond.code yX4_markCell cX4_markCell 7 none) ∧ goodWord (Cond.code yX4_markCell cX4_markCell 7 none) = true) ∧ (lw_tbl[82]? = some (Cond.initialized yX4_markCell.cls) ∧ goodWord (Cond.initialized yX4_markCell.cls) = true) ∧ (lw_tbl[741]? = some (Cond.methodLink RX4 32 yX7_isGap) ∧ goodWord (Cond.methodLink RX4 32 yX7_isGap) = true) ∧ (lw_tbl[742]? = some (Cond.methodLink RX4 38 yX4_mark) ∧ goodWord (Cond.methodLink RX4 38 yX4_mark) = true) ∧ (lw_tbl[744]? = some (Cond.instanceMethod yX4_mark) ∧ goodWord (Cond.instanceMethod yX4_mark) = true) ∧ (lw_tbl[20]? = some (Cond.selects (fR 4) yX4_mark yX4_mark) ∧ goodWord (Cond.selects (fR 4) yX4_mark yX4_mark) = true) := by decide +kernel
set_option maxRecDepth 100000 in
theorem gn_X4_markCell : Cond.instanceMethod yX4_markCell ∈ gtbl := g_at 748 gwb_19.1
set_option maxRecDepth 100000 in
theorem gs_X4_markCell : Cond.selects (fR 4) yX4_markCell yX4_markCell ∈ gtbl := g_at 21 gwb_19.2.1
set_option maxRecDepth 100000 in
theorem gp1_X4_markCell : (parseMethodDescriptor yX4_markCell.desc).map (fun d => d.parameters.length + 1) = some 5 := by decide +kernel
set_option maxRecDepth 100000 in
theorem gc_X4_markCell : Cond.code yX4_markCell cX4_markCell 7 none ∈ gtbl := g_at 749 gwb_19.2.2.1
set_option maxRecDepth 100000 in
theorem gi_X4_markCell : Cond.initialized yX4_markCell.cls ∈ gtbl := g_at 82 gwb_19.2.2.2.1
set_option maxRecDepth 100000 in
theorem gh_X4_markCell : yX4_markCell.cls ≠ "java/lang/invoke/MethodHandle" ∧ yX4_markCell.cls ≠ "java/lang/invoke/VarHandle" := ⟨by decide +kernel, by decide +kernel⟩
set_option maxRecDepth 100000 in
theorem gl_RX4_32 : Cond.methodLink RX4 32 yX7_isGap ∈ gtbl := g_at 741 gwb_19.2.2.2.2.1
set_option maxRecDepth 100000 in
theorem gl_RX4_38 : Cond.methodLink RX4 38 yX4_mark ∈ gtbl := g_at 742 gwb_19.2.2.2.2.2.1
set_option maxRecDepth 100000 in
theorem gn_X4_mark : Cond.instanceMethod yX4_mark ∈ gtbl := g_at 744 gwb_19.2.2.2.2.2.2.1
set_option maxRecDepth 100000 in
theorem gs_X4_mark : Cond.selects (fR 4) yX4_mark yX4_mark ∈ gtbl := g_at 20 gwb_19.2.2.2.2.2.2.2
set_option maxRecDepth 100000 in
theorem gp1_X4_mark : (parseMethodDescriptor yX4_mark.desc).map (fun d => d.parameters.length + 1) = some 4 := by decide +kernel
set_option maxRecDepth 100000 in
theorem gwb_20 : (lw_tbl[745]? = some (Cond.code yX4_mark cX4_mark 5 none) ∧ goodWord (Cond.code yX4_mark cX4_mark 5 none) = true) ∧ (lw_tbl[82]? = some (Cond.initialized yX4_mark.cls) ∧ goodWord (Cond.initialized yX4_mark.cls) = true) ∧ (lw_tbl[750]? = some (Cond.methodLink RX4 51 yX4_leans) ∧ goodWord (Cond.methodLink RX4 51 yX4_leans) = true) ∧ (lw_tbl[752]? = some (Cond.instanceMethod yX4_leans) ∧ goodWord (Cond.instanceMethod yX4_leans) = true) ∧ (lw_tbl[22]? = some (Cond.selects (fR 4) yX4_leans yX4_leans) ∧ goodWord (Cond.selects (fR 4) yX4_leans yX4_leans) = true) ∧ (lw_tbl[753]? = some (Cond.code yX4_leans cX4_leans 7 (some .boolean)) ∧ goodWord (Cond.code yX4_leans cX4_leans 7 (some .boolean)) = true) ∧ (lw_tbl[82]? = some (Cond.initialized yX4_leans.cls) ∧ goodWord (Cond.initialized yX4_leans.cls) = true) ∧ (lw_tbl[754]? = some (Cond.methodLink RX4 58 yX4_has) ∧ goodWord (Cond.methodLink RX4 58 yX4_has) = true) := by decide +kernel
set_option maxRecDepth 100000 in
theorem gc_X4_mark : Cond.code yX4_mark cX4_mark 5 none ∈ gtbl := g_at 745 gwb_20.1
set_option maxRecDepth 100000 in
theorem gi_X4_mark : Cond.initialized yX4_mark.cls ∈ gtbl := g_at 82 gwb_20.2.1
set_option maxRecDepth 100000 in
theorem gh_X4_mark : yX4_mark.cls ≠ "java/lang/invoke/MethodHandle" ∧ yX4_mark.cls ≠ "java/lang/invoke/VarHandle" := ⟨by decide +kernel, by decide +kernel⟩
set_option maxRecDepth 100000 in
theorem gl_RX4_51 : Cond.methodLink RX4 51 yX4_leans ∈ gtbl := g_at 750 gwb_20.2.2.1
set_option maxRecDepth 100000 in
theorem gn_X4_leans : Cond.instanceMethod yX4_leans ∈ gtbl := g_at 752 gwb_20.2.2.2.1
set_option maxRecDepth 100000 in
theorem gs_X4_leans : Cond.selects (fR 4) yX4_leans yX4_leans ∈ gtbl := g_at 22 gwb_20.2.2.2.2.1
set_option maxRecDepth 100000 in
theorem gp1_X4_leans : (parseMethodDescriptor yX4_leans.desc).map (fun d => d.parameters.length + 1) = some 6 := by decide +kernel
set_option maxRecDepth 100000 in
theorem gc_X4_leans : Cond.code yX4_leans cX4_leans 7 (some .boolean) ∈ gtbl := g_at 753 gwb_20.2.2.2.2.2.1
set_option maxRecDepth 100000 in
theorem gi_X4_leans : Cond.initialized yX4_leans.cls ∈ gtbl := g_at 82 gwb_20.2.2.2.2.2.2.1
set_option maxRecDepth 100000 in
theorem gh_X4_leans : yX4_leans.cls ≠ "java/lang/invoke/MethodHandle" ∧ yX4_leans.cls ≠ "java/lang/invoke/VarHandle" := ⟨by decide +kernel, by decide +kernel⟩
set_option maxRecDepth 100000 in
theorem gl_RX4_58 : Cond.methodLink RX4 58 yX4_has ∈ gtbl := g_at 754 gwb_20.2.2.2.2.2.2.2
set_option maxRecDepth 100000 in
theorem gwb_21 : (lw_tbl[755]? = some (Cond.instanceMethod yX4_has) ∧ goodWord (Cond.instanceMethod yX4_has) = true) ∧ (lw_tbl[756]? = some (Cond.selects (fR 4) yX4_has yX4_has) ∧ goodWord (Cond.selects (fR 4) yX4_has yX4_has) = true) ∧ (lw_tbl[757]? = some (Cond.code yX4_has cX4_has 5 (some .boolean)) ∧ goodWord (Cond.code yX4_has cX4_has 5 (some .boolean)) = true) ∧ (lw_tbl[82]? = some (Cond.initialized yX4_has.cls) ∧ goodWord (Cond.initialized yX4_has.cls) = true) ∧ (lw_tbl[758]? = some (Cond.methodLink RX4 65 yX5_end) ∧ goodWord (Cond.methodLink RX4 65 yX5_end) = true) ∧ (lw_tbl[759]? = some (Cond.methodLink RX4 72 yX4_isMarked) ∧ goodWord (Cond.methodLink RX4 72 yX4_isMarked) = true) ∧ (lw_tbl[761]? = some (Cond.instanceMethod yX4_isMarked) ∧ goodWord (Cond.instanceMethod yX4_isMarked) = true) ∧ (lw_tbl[23]? = some (Cond.selects (fR 4) yX4_isMarked yX4_isMarked) ∧ goodWord (Cond.selects (fR 4) yX4_isMarked yX4_isMarked) = true) := by decide +kernel
set_option maxRecDepth 100000 in
theorem gn_X4_has : Cond.instanceMethod yX4_has ∈ gtbl := g_at 755 gwb_21.1
set_option maxRecDepth 100000 in
theorem gs_X4_has : Cond.selects (fR 4) yX4_has yX4_has ∈ gtbl := g_at 756 gwb_21.2.1
set_option maxRecDepth 100000 in
theorem gp1_X4_has : (parseMethodDescriptor yX4_has.desc).map (fun d => d.parameters.length + 1) = some 4 := by decide +kernel
set_option maxRecDepth 100000 in
theorem gc_X4_has : Cond.code yX4_has cX4_has 5 (some .boolean) ∈ gtbl := g_at 757 gwb_21.2.2.1
set_option maxRecDepth 100000 in
theorem gi_X4_has : Cond.initialized yX4_has.cls ∈ gtbl := g_at 82 gwb_21.2.2.2.1
set_option maxRecDepth 100000 in
theorem gh_X4_has : yX4_has.cls ≠ "java/lang/invoke/MethodHandle" ∧ yX4_has.cls ≠ "java/lang/invoke/VarHandle" := ⟨by decide +kernel, by decide +kernel⟩
set_option maxRecDepth 100000 in
theorem gl_RX4_65 : Cond.methodLink RX4 65 yX5_end ∈ gtbl := g_at 758 gwb_21.2.2.2.2.1
set_option maxRecDepth 100000 in
theorem gl_RX4_72 : Cond.methodLink RX4 72 yX4_isMarked ∈ gtbl := g_at 759 gwb_21.2.2.2.2.2.1
set_option maxRecDepth 100000 in
theorem gn_X4_isMarked : Cond.instanceMethod yX4_isMarked ∈ gtbl := g_at 761 gwb_21.2.2.2.2.2.2.1
set_option maxRecDepth 100000 in
theorem gs_X4_isMarked : Cond.selects (fR 4) yX4_isMarked yX4_isMarked ∈ gtbl := g_at 23 gwb_21.2.2.2.2.2.2.2
set_option maxRecDepth 100000 in
theorem gp1_X4_isMarked : (parseMethodDescriptor yX4_isMarked.desc).map (fun d => d.parameters.length + 1) = some 5 := by decide +kernel
set_option maxRecDepth 100000 in
theorem gwb_22 : (lw_tbl[762]? = some (Cond.code yX4_isMarked cX4_isMarked 6 (some .boolean)) ∧ goodWord (Cond.code yX4_isMarked cX4_isMarked 6 (some .boolean)) = true) ∧ (lw_tbl[82]? = some (Cond.initialized yX4_isMarked.cls) ∧ goodWord (Cond.initialized yX4_isMarked.cls) = true) ∧ (lw_tbl[763]? = some (Cond.methodLink RX4 79 yX5_sideOf) ∧ goodWord (Cond.methodLink RX4 79 yX5_sideOf) = true) ∧ (lw_tbl[764]? = some (Cond.methodLink RX4 82 yX3_beside) ∧ goodWord (Cond.methodLink RX4 82 yX3_beside) = true) ∧ (lw_tbl[765]? = some (Cond.methodLink RX4 86 yX5_isNow) ∧ goodWord (Cond.methodLink RX4 86 yX5_isNow) = true) ∧ (lw_tbl[766]? = some (Cond.methodLink RX4 90 yX5_letterOf) ∧ goodWord (Cond.methodLink RX4 90 yX5_letterOf) = true) ∧ (lw_tbl[154]? = some (Cond.methodLink RX5 40 yX5_clear) ∧ goodWord (Cond.methodLink RX5 40 yX5_clear) = true) ∧ (lw_tbl[155]? = some (Cond.instanceMethod yX5_clear) ∧ goodWord (Cond.instanceMethod yX5_clear) = true) := by decide +kernel
set_option maxRecDepth 100000 in
theorem gc_X4_isMarked : Cond.code yX4_isMarked cX4_isMarked 6 (some .boolean) ∈ gtbl := g_at 762 gwb_22.1
set_option maxRecDepth 100000 in
theorem gi_X4_isMarked : Cond.initialized yX4_isMarked.cls ∈ gtbl := g_at 82 gwb_22.2.1
set_option maxRecDepth 100000 in
theorem gh_X4_isMarked : yX4_isMarked.cls ≠ "java/lang/invoke/MethodHandle" ∧ yX4_isMarked.cls ≠ "java/lang/invoke/VarHandle" := ⟨by decide +kernel, by decide +kernel⟩
set_option maxRecDepth 100000 in
theorem gl_RX4_79 : Cond.methodLink RX4 79 yX5_sideOf ∈ gtbl := g_at 763 gwb_22.2.2.1
set_option maxRecDepth 100000 in
theorem gl_RX4_82 : Cond.methodLink RX4 82 yX3_beside ∈ gtbl := g_at 764 gwb_22.2.2.2.1
set_option maxRecDepth 100000 in
theorem gl_RX4_86 : Cond.methodLink RX4 86 yX5_isNow ∈ gtbl := g_at 765 gwb_22.2.2.2.2.1
set_option maxRecDepth 100000 in
theorem gl_RX4_90 : Cond.methodLink RX4 90 yX5_letterOf ∈ gtbl := g_at 766 gwb_22.2.2.2.2.2.1
set_option maxRecDepth 100000 in
theorem gl_RX5_40 : Cond.methodLink RX5 40 yX5_clear ∈ gtbl := g_at 154 gwb_22.2.2.2.2.2.2.1
set_option maxRecDepth 100000 in
theorem gn_X5_clear : Cond.instanceMethod yX5_clear ∈ gtbl := g_at 155 gwb_22.2.2.2.2.2.2.2
set_option maxRecDepth 100000 in
theorem gwb_23 : (lw_tbl[156]? = some (Cond.selects (fR 5) yX5_clear yX5_clear) ∧ goodWord (Cond.selects (fR 5) yX5_clear yX5_clear) = true) ∧ (lw_tbl[157]? = some (Cond.code yX5_clear cX5_clear 2 none) ∧ goodWord (Cond.code yX5_clear cX5_clear 2 none) = true) ∧ (lw_tbl[79]? = some (Cond.initialized yX5_clear.cls) ∧ goodWord (Cond.initialized yX5_clear.cls) = true) ∧ (lw_tbl[620]? = some (Cond.methodLink RX5 50 yJ9_min_7cf53) ∧ goodWord (Cond.methodLink RX5 50 yJ9_min_7cf53) = true) ∧ (lw_tbl[616]? = some (Cond.methodLink RX5 56 yX5_end) ∧ goodWord (Cond.methodLink RX5 56 yX5_end) = true) ∧ (lw_tbl[824]? = some (Cond.methodLink RX5 60 yX5_letterOf) ∧ goodWord (Cond.methodLink RX5 60 yX5_letterOf) = true) ∧ (lw_tbl[825]? = some (Cond.methodLink RX5 63 yX5_isNow) ∧ goodWord (Cond.methodLink RX5 63 yX5_isNow) = true) ∧ (lw_tbl[826]? = some (Cond.methodLink RX5 67 yX5_hasProduct) ∧ goodWord (Cond.methodLink RX5 67 yX5_hasProduct) = true) := by decide +kernel
set_option maxRecDepth 100000 in
theorem gs_X5_clear : Cond.selects (fR 5) yX5_clear yX5_clear ∈ gtbl := g_at 156 gwb_23.1
set_option maxRecDepth 100000 in
theorem gp1_X5_clear : (parseMethodDescriptor yX5_clear.desc).map (fun d => d.parameters.length + 1) = some 1 := by decide +kernel
set_option maxRecDepth 100000 in
theorem gc_X5_clear : Cond.code yX5_clear cX5_clear 2 none ∈ gtbl := g_at 157 gwb_23.2.1
set_option maxRecDepth 100000 in
theorem gi_X5_clear : Cond.initialized yX5_clear.cls ∈ gtbl := g_at 79 gwb_23.2.2.1
set_option maxRecDepth 100000 in
theorem gh_X5_clear : yX5_clear.cls ≠ "java/lang/invoke/MethodHandle" ∧ yX5_clear.cls ≠ "java/lang/invoke/VarHandle" := ⟨by decide +kernel, by decide +kernel⟩
set_option maxRecDepth 100000 in
theorem gl_RX5_50 : Cond.methodLink RX5 50 yJ9_min_7cf53 ∈ gtbl := g_at 620 gwb_23.2.2.2.1
set_option maxRecDepth 100000 in
theorem gl_RX5_56 : Cond.methodLink RX5 56 yX5_end ∈ gtbl := g_at 616 gwb_23.2.2.2.2.1
set_option maxRecDepth 100000 in
theorem gl_RX5_60 : Cond.methodLink RX5 60 yX5_letterOf ∈ gtbl := g_at 824 gwb_23.2.2.2.2.2.1
set_option maxRecDepth 100000 in
theorem gl_RX5_63 : Cond.methodLink RX5 63 yX5_isNow ∈ gtbl := g_at 825 gwb_23.2.2.2.2.2.2.1
set_option maxRecDepth 100000 in
theorem gl_RX5_67 : Cond.methodLink RX5 67 yX5_hasProduct ∈ gtbl := g_at 826 gwb_23.2.2.2.2.2.2.2
set_option maxRecDepth 100000 in
theorem gwb_24 : (lw_tbl[613]? = some (Cond.instanceMethod yX5_hasProduct) ∧ goodWord (Cond.instanceMethod yX5_hasProduct) = true) ∧ (lw_tbl[614]? = some (Cond.selects (fR 5) yX5_hasProduct yX5_hasProduct) ∧ goodWord (Cond.selects (fR 5) yX5_hasProduct yX5_hasProduct) = true) ∧ (lw_tbl[615]? = some (Cond.code yX5_hasProduct cX5_hasProduct 3 (some .boolean)) ∧ goodWord (Cond.code yX5_hasProduct cX5_hasProduct 3 (some .boolean)) = true) ∧ (lw_tbl[79]? = some (Cond.initialized yX5_hasProduct.cls) ∧ goodWord (Cond.initialized yX5_hasProduct.cls) = true) ∧ (lw_tbl[835]? = some (Cond.methodLink RX5 70 yJ9_abs_0f7a4) ∧ goodWord (Cond.methodLink RX5 70 yJ9_abs_0f7a4) = true) ∧ (lw_tbl[836]? = some (Cond.static yJ9_abs_0f7a4) ∧ goodWord (Cond.static yJ9_abs_0f7a4) = true) ∧ (lw_tbl[837]? = some (Cond.code yJ9_abs_0f7a4 prog_15_method_59_code 1 (some .int)) ∧ goodWord (Cond.code yJ9_abs_0f7a4 prog_15_method_59_code 1 (some .int)) = true) ∧ (lw_tbl[77]? = some (Cond.initialized yJ9_abs_0f7a4.cls) ∧ goodWord (Cond.initialized yJ9_abs_0f7a4.cls) = true) := by decide +kernel
set_option maxRecDepth 100000 in
theorem gn_X5_hasProduct : Cond.instanceMethod yX5_hasProduct ∈ gtbl := g_at 613 gwb_24.1
set_option maxRecDepth 100000 in
theorem gs_X5_hasProduct : Cond.selects (fR 5) yX5_hasProduct yX5_hasProduct ∈ gtbl := g_at 614 gwb_24.2.1
set_option maxRecDepth 100000 in
theorem gp1_X5_hasProduct : (parseMethodDescriptor yX5_hasProduct.desc).map (fun d => d.parameters.length + 1) = some 2 := by decide +kernel
set_option maxRecDepth 100000 in
theorem gc_X5_hasProduct : Cond.code yX5_hasProduct cX5_hasProduct 3 (some .boolean) ∈ gtbl := g_at 615 gwb_24.2.2.1
set_option maxRecDepth 100000 in
theorem gi_X5_hasProduct : Cond.initialized yX5_hasProduct.cls ∈ gtbl := g_at 79 gwb_24.2.2.2.1
set_option maxRecDepth 100000 in
theorem gh_X5_hasProduct : yX5_hasProduct.cls ≠ "java/lang/invoke/MethodHandle" ∧ yX5_hasProduct.cls ≠ "java/lang/invoke/VarHandle" := ⟨by decide +kernel, by decide +kernel⟩
set_option maxRecDepth 100000 in
theorem gl_RX5_70 : Cond.methodLink RX5 70 yJ9_abs_0f7a4 ∈ gtbl := g_at 835 gwb_24.2.2.2.2.1
set_option maxRecDepth 100000 in
theorem gt_J9_abs_0f7a4 : Cond.static yJ9_abs_0f7a4 ∈ gtbl := g_at 836 gwb_24.2.2.2.2.2.1
set_option maxRecDepth 100000 in
theorem gp0_J9_abs_0f7a4 : (parseMethodDescriptor yJ9_abs_0f7a4.desc).map (fun d => d.parameters.length) = some 1 := by decide +kernel
set_option maxRecDepth 100000 in
theorem gc_J9_abs_0f7a4 : Cond.code yJ9_abs_0f7a4 prog_15_method_59_code 1 (some .int) ∈ gtbl := g_at 837 gwb_24.2.2.2.2.2.2.1
set_option maxRecDepth 100000 in
theorem gi_J9_abs_0f7a4 : Cond.initialized yJ9_abs_0f7a4.cls ∈ gtbl := g_at 77 gwb_24.2.2.2.2.2.2.2
set_option maxRecDepth 100000 in
theorem gh_J9_abs_0f7a4 : yJ9_abs_0f7a4.cls ≠ "java/lang/invoke/MethodHandle" ∧ yJ9_abs_0f7a4.cls ≠ "java/lang/invoke/VarHandle" := ⟨by decide +kernel, by decide +kernel⟩
set_option maxRecDepth 100000 in
theorem gwb_25 : (lw_tbl[716]? = some (Cond.methodLink RX5 80 yJ9_floorDiv_f86c9) ∧ goodWord (Cond.methodLink RX5 80 yJ9_floorDiv_f86c9) = true) ∧ (lw_tbl[717]? = some (Cond.static yJ9_floorDiv_f86c9) ∧ goodWord (Cond.static yJ9_floorDiv_f86c9) = true) ∧ (lw_tbl[718]? = some (Cond.code yJ9_floorDiv_f86c9 prog_15_method_49_code 6 (some .long)) ∧ goodWord (Cond.code yJ9_floorDiv_f86c9 prog_15_method_49_code 6 (some .long)) = true) ∧ (lw_tbl[77]? = some (Cond.initialized yJ9_floorDiv_f86c9.cls) ∧ goodWord (Cond.initialized yJ9_floorDiv_f86c9.cls) = true) ∧ (lw_tbl[150]? = some (Cond.methodLink RX6 17 yX5_init) ∧ goodWord (Cond.methodLink RX6 17 yX5_init) = true) ∧ (lw_tbl[151]? = some (Cond.instanceMethod yX5_init) ∧ goodWord (Cond.instanceMethod yX5_init) = true) ∧ (lw_tbl[152]? = some (Cond.code yX5_init cX5_init 1 none) ∧ goodWord (Cond.code yX5_init cX5_init 1 none) = true) ∧ (lw_tbl[79]? = some (Cond.initialized yX5_init.cls) ∧ goodWord (Cond.initialized yX5_init.cls) = true) := by decide +kernel
set_option maxRecDepth 100000 in
theorem gl_RX5_80 : Cond.methodLink RX5 80 yJ9_floorDiv_f86c9 ∈ gtbl := g_at 716 gwb_25.1
set_option maxRecDepth 100000 in
theorem gt_J9_floorDiv_f86c9 : Cond.static yJ9_floorDiv_f86c9 ∈ gtbl := g_at 717 gwb_25.2.1
set_option maxRecDepth 100000 in
theorem gp0_J9_floorDiv_f86c9 : (parseMethodDescriptor yJ9_floorDiv_f86c9.desc).map (fun d => d.parameters.length) = some 2 := by decide +kernel
set_option maxRecDepth 100000 in
theorem gc_J9_floorDiv_f86c9 : Cond.code yJ9_floorDiv_f86c9 prog_15_method_49_code 6 (some .long) ∈ gtbl := g_at 718 gwb_25.2.2.1
set_option maxRecDepth 100000 in
theorem gi_J9_floorDiv_f86c9 : Cond.initialized yJ9_floorDiv_f86c9.cls ∈ gtbl := g_at 77 gwb_25.2.2.2.1
set_option maxRecDepth 100000 in
theorem gh_J9_floorDiv_f86c9 : yJ9_floorDiv_f86c9.cls ≠ "java/lang/invoke/MethodHandle" ∧ yJ9_floorDiv_f86c9.cls ≠ "java/lang/invoke/VarHandle" := ⟨by decide +kernel, by decide +kernel⟩
set_option maxRecDepth 100000 in
theorem gl_RX6_17 : Cond.methodLink RX6 17 yX5_init ∈ gtbl := g_at 150 gwb_25.2.2.2.2.1
set_option maxRecDepth 100000 in
theorem gn_X5_init : Cond.instanceMethod yX5_init ∈ gtbl := g_at 151 gwb_25.2.2.2.2.2.1
set_option maxRecDepth 100000 in
theorem gp1_X5_init : (parseMethodDescriptor yX5_init.desc).map (fun d => d.parameters.length + 1) = some 1 := by decide +kernel
set_option maxRecDepth 100000 in
theorem gc_X5_init : Cond.code yX5_init cX5_init 1 none ∈ gtbl := g_at 152 gwb_25.2.2.2.2.2.2.1
set_option maxRecDepth 100000 in
theorem gi_X5_init : Cond.initialized yX5_init.cls ∈ gtbl := g_at 79 gwb_25.2.2.2.2.2.2.2
set_option maxRecDepth 100000 in
theorem gh_X5_init : yX5_init.cls ≠ "java/lang/invoke/MethodHandle" ∧ yX5_init.cls ≠ "java/lang/invoke/VarHandle" := ⟨by decide +kernel, by decide +kernel⟩
set_option maxRecDepth 100000 in
theorem gwb_26 : (lw_tbl[553]? = some (Cond.methodLink RX6 26 yX5_clear) ∧ goodWord (Cond.methodLink RX6 26 yX5_clear) = true) ∧ (lw_tbl[554]? = some (Cond.methodLink RX6 32 yX6_readLine) ∧ goodWord (Cond.methodLink RX6 32 yX6_readLine) = true) ∧ (lw_tbl[556]? = some (Cond.instanceMethod yX6_readLine) ∧ goodWord (Cond.instanceMethod yX6_readLine) = true) ∧ (lw_tbl[5]? = some (Cond.selects (fR 6) yX6_readLine yX6_readLine) ∧ goodWord (Cond.selects (fR 6) yX6_readLine yX6_readLine) = true) ∧ (lw_tbl[557]? = some (Cond.code yX6_readLine cX6_readLine 3 (some .boolean)) ∧ goodWord (Cond.code yX6_readLine cX6_readLine 3 (some .boolean)) = true) ∧ (lw_tbl[78]? = some (Cond.initialized yX6_readLine.cls) ∧ goodWord (Cond.initialized yX6_readLine.cls) = true) ∧ (lw_tbl[558]? = some (Cond.methodLink RX6 39 yX6_ahead) ∧ goodWord (Cond.methodLink RX6 39 yX6_ahead) = true) ∧ (lw_tbl[560]? = some (Cond.instanceMethod yX6_ahead) ∧ goodWord (Cond.instanceMethod yX6_ahead) = true) := by decide +kernel
set_option maxRecDepth 100000 in
theorem gl_RX6_26 : Cond.methodLink RX6 26 yX5_clear ∈ gtbl := g_at 553 gwb_26.1
set_option maxRecDepth 100000 in
theorem gl_RX6_32 : Cond.methodLink RX6 32 yX6_readLine ∈ gtbl := g_at 554 gwb_26.2.1
set_option maxRecDepth 100000 in
theorem gn_X6_readLine : Cond.instanceMethod yX6_readLine ∈ gtbl := g_at 556 gwb_26.2.2.1
set_option maxRecDepth 100000 in
theorem gs_X6_readLine : Cond.selects (fR 6) yX6_readLine yX6_readLine ∈ gtbl := g_at 5 gwb_26.2.2.2.1
set_option maxRecDepth 100000 in
theorem gp1_X6_readLine : (parseMethodDescriptor yX6_readLine.desc).map (fun d => d.parameters.length + 1) = some 1 := by decide +kernel
set_option maxRecDepth 100000 in
theorem gc_X6_readLine : Cond.code yX6_readLine cX6_readLine 3 (some .boolean) ∈ gtbl := g_at 557 gwb_26.2.2.2.2.1
set_option maxRecDepth 100000 in
theorem gi_X6_readLine : Cond.initialized yX6_readLine.cls ∈ gtbl := g_at 78 gwb_26.2.2.2.2.2.1
set_option maxRecDepth 100000 in
theorem gh_X6_readLine : yX6_readLine.cls ≠ "java/lang/invoke/MethodHandle" ∧ yX6_readLine.cls ≠ "java/lang/invoke/VarHandle" := ⟨by decide +kernel, by decide +kernel⟩
set_option maxRecDepth 100000 in
theorem gl_RX6_39 : Cond.methodLink RX6 39 yX6_ahead ∈ gtbl := g_at 558 gwb_26.2.2.2.2.2.2.1
set_option maxRecDepth 100000 in
theorem gn_X6_ahead : Cond.instanceMethod yX6_ahead ∈ gtbl := g_at 560 gwb_26.2.2.2.2.2.2.2
set_option maxRecDepth 100000 in
theorem gwb_27 : (lw_tbl[6]? = some (Cond.selects (fR 6) yX6_ahead yX6_ahead) ∧ goodWord (Cond.selects (fR 6) yX6_ahead yX6_ahead) = true) ∧ (lw_tbl[561]? = some (Cond.code yX6_ahead cX6_ahead 1 (some .int)) ∧ goodWord (Cond.code yX6_ahead cX6_ahead 1 (some .int)) = true) ∧ (lw_tbl[78]? = some (Cond.initialized yX6_ahead.cls) ∧ goodWord (Cond.initialized yX6_ahead.cls) = true) ∧ (lw_tbl[525]? = some (Cond.static yX10_isLetter) ∧ goodWord (Cond.static yX10_isLetter) = true) ∧ (lw_tbl[526]? = some (Cond.code yX10_isLetter cX10_isLetter 1 (some .boolean)) ∧ goodWord (Cond.code yX10_isLetter cX10_isLetter 1 (some .boolean)) = true) ∧ (lw_tbl[75]? = some (Cond.initialized yX10_isLetter.cls) ∧ goodWord (Cond.initialized yX10_isLetter.cls) = true) ∧ (lw_tbl[563]? = some (Cond.methodLink RX6 50 yX6_refuse) ∧ goodWord (Cond.methodLink RX6 50 yX6_refuse) = true) ∧ (lw_tbl[565]? = some (Cond.instanceMethod yX6_refuse) ∧ goodWord (Cond.instanceMethod yX6_refuse) = true) := by decide +kernel
set_option maxRecDepth 100000 in
theorem gs_X6_ahead : Cond.selects (fR 6) yX6_ahead yX6_ahead ∈ gtbl := g_at 6 gwb_27.1
set_option maxRecDepth 100000 in
theorem gp1_X6_ahead : (parseMethodDescriptor yX6_ahead.desc).map (fun d => d.parameters.length + 1) = some 1 := by decide +kernel
set_option maxRecDepth 100000 in
theorem gc_X6_ahead : Cond.code yX6_ahead cX6_ahead 1 (some .int) ∈ gtbl := g_at 561 gwb_27.2.1
set_option maxRecDepth 100000 in
theorem gi_X6_ahead : Cond.initialized yX6_ahead.cls ∈ gtbl := g_at 78 gwb_27.2.2.1
set_option maxRecDepth 100000 in
theorem gh_X6_ahead : yX6_ahead.cls ≠ "java/lang/invoke/MethodHandle" ∧ yX6_ahead.cls ≠ "java/lang/invoke/VarHandle" := ⟨by decide +kernel, by decide +kernel⟩
set_option maxRecDepth 100000 in
theorem gt_X10_isLetter : Cond.static yX10_isLetter ∈ gtbl := g_at 525 gwb_27.2.2.2.1
set_option maxRecDepth 100000 in
theorem gp0_X10_isLetter : (parseMethodDescriptor yX10_isLetter.desc).map (fun d => d.parameters.length) = some 1 := by decide +kernel
set_option maxRecDepth 100000 in
theorem gc_X10_isLetter : Cond.code yX10_isLetter cX10_isLetter 1 (some .boolean) ∈ gtbl := g_at 526 gwb_27.2.2.2.2.1
set_option maxRecDepth 100000 in
theorem gi_X10_isLetter : Cond.initialized yX10_isLetter.cls ∈ gtbl := g_at 75 gwb_27.2.2.2.2.2.1
set_option maxRecDepth 100000 in
theorem gh_X10_isLetter : yX10_isLetter.cls ≠ "java/lang/invoke/MethodHandle" ∧ yX10_isLetter.cls ≠ "java/lang/invoke/VarHandle" := ⟨by decide +kernel, by decide +kernel⟩
set_option maxRecDepth 100000 in
theorem gl_RX6_50 : Cond.methodLink RX6 50 yX6_refuse ∈ gtbl := g_at 563 gwb_27.2.2.2.2.2.2.1
set_option maxRecDepth 100000 in
theorem gn_X6_refuse : Cond.instanceMethod yX6_refuse ∈ gtbl := g_at 565 gwb_27.2.2.2.2.2.2.2
set_option maxRecDepth 100000 in
theorem gwb_28 : (lw_tbl[7]? = some (Cond.selects (fR 6) yX6_refuse yX6_refuse) ∧ goodWord (Cond.selects (fR 6) yX6_refuse yX6_refuse) = true) ∧ (lw_tbl[566]? = some (Cond.code yX6_refuse cX6_refuse 2 (some .boolean)) ∧ goodWord (Cond.code yX6_refuse cX6_refuse 2 (some .boolean)) = true) ∧ (lw_tbl[78]? = some (Cond.initialized yX6_refuse.cls) ∧ goodWord (Cond.initialized yX6_refuse.cls) = true) ∧ (lw_tbl[567]? = some (Cond.methodLink RX6 53 yX6_pass) ∧ goodWord (Cond.methodLink RX6 53 yX6_pass) = true) ∧ (lw_tbl[569]? = some (Cond.instanceMethod yX6_pass) ∧ goodWord (Cond.instanceMethod yX6_pass) = true) ∧ (lw_tbl[8]? = some (Cond.selects (fR 6) yX6_pass yX6_pass) ∧ goodWord (Cond.selects (fR 6) yX6_pass yX6_pass) = true) ∧ (lw_tbl[570]? = some (Cond.code yX6_pass cX6_pass 2 (some .boolean)) ∧ goodWord (Cond.code yX6_pass cX6_pass 2 (some .boolean)) = true) ∧ (lw_tbl[78]? = some (Cond.initialized yX6_pass.cls) ∧ goodWord (Cond.initialized yX6_pass.cls) = true) := by decide +kernel
set_option maxRecDepth 100000 in
theorem gs_X6_refuse : Cond.selects (fR 6) yX6_refuse yX6_refuse ∈ gtbl := g_at 7 gwb_28.1
set_option maxRecDepth 100000 in
theorem gp1_X6_refuse : (parseMethodDescriptor yX6_refuse.desc).map (fun d => d.parameters.length + 1) = some 2 := by decide +kernel
set_option maxRecDepth 100000 in
theorem gc_X6_refuse : Cond.code yX6_refuse cX6_refuse 2 (some .boolean) ∈ gtbl := g_at 566 gwb_28.2.1
set_option maxRecDepth 100000 in
theorem gi_X6_refuse : Cond.initialized yX6_refuse.cls ∈ gtbl := g_at 78 gwb_28.2.2.1
set_option maxRecDepth 100000 in
theorem gh_X6_refuse : yX6_refuse.cls ≠ "java/lang/invoke/MethodHandle" ∧ yX6_refuse.cls ≠ "java/lang/invoke/VarHandle" := ⟨by decide +kernel, by decide +kernel⟩
set_option maxRecDepth 100000 in
theorem gl_RX6_53 : Cond.methodLink RX6 53 yX6_pass ∈ gtbl := g_at 567 gwb_28.2.2.2.1
set_option maxRecDepth 100000 in
theorem gn_X6_pass : Cond.instanceMethod yX6_pass ∈ gtbl := g_at 569 gwb_28.2.2.2.2.1
set_option maxRecDepth 100000 in
theorem gs_X6_pass : Cond.selects (fR 6) yX6_pass yX6_pass ∈ gtbl := g_at 8 gwb_28.2.2.2.2.2.1
set_option maxRecDepth 100000 in
theorem gp1_X6_pass : (parseMethodDescriptor yX6_pass.desc).map (fun d => d.parameters.length + 1) = some 2 := by decide +kernel
set_option maxRecDepth 100000 in
theorem gc_X6_pass : Cond.code yX6_pass cX6_pass 2 (some .boolean) ∈ gtbl := g_at 570 gwb_28.2.2.2.2.2.2.1
set_option maxRecDepth 100000 in
theorem gi_X6_pass : Cond.initialized yX6_pass.cls ∈ gtbl := g_at 78 gwb_28.2.2.2.2.2.2.2
set_option maxRecDepth 100000 in
theorem gh_X6_pass : yX6_pass.cls ≠ "java/lang/invoke/MethodHandle" ∧ yX6_pass.cls ≠ "java/lang/invoke/VarHandle" := ⟨by decide +kernel, by decide +kernel⟩
set_option maxRecDepth 100000 in
theorem gwb_29 : (lw_tbl[571]? = some (Cond.methodLink RX6 62 yX6_readTerm) ∧ goodWord (Cond.methodLink RX6 62 yX6_readTerm) = true) ∧ (lw_tbl[573]? = some (Cond.instanceMethod yX6_readTerm) ∧ goodWord (Cond.instanceMethod yX6_readTerm) = true) ∧ (lw_tbl[9]? = some (Cond.selects (fR 6) yX6_readTerm yX6_readTerm) ∧ goodWord (Cond.selects (fR 6) yX6_readTerm yX6_readTerm) = true) ∧ (lw_tbl[574]? = some (Cond.code yX6_readTerm cX6_readTerm 5 (some .boolean)) ∧ goodWord (Cond.code yX6_readTerm cX6_readTerm 5 (some .boolean)) = true) ∧ (lw_tbl[78]? = some (Cond.initialized yX6_readTerm.cls) ∧ goodWord (Cond.initialized yX6_readTerm.cls) = true) ∧ (lw_tbl[579]? = some (Cond.methodLink RX6 65 yX6_readNumber) ∧ goodWord (Cond.methodLink RX6 65 yX6_readNumber) = true) ∧ (lw_tbl[581]? = some (Cond.instanceMethod yX6_readNumber) ∧ goodWord (Cond.instanceMethod yX6_readNumber) = true) ∧ (lw_tbl[11]? = some (Cond.selects (fR 6) yX6_readNumber yX6_readNumber) ∧ goodWord (Cond.selects (fR 6) yX6_readNumber yX6_readNumber) = true) := by decide +kernel
set_option maxRecDepth 100000 in
theorem gl_RX6_62 : Cond.methodLink RX6 62 yX6_readTerm ∈ gtbl := g_at 571 gwb_29.1
set_option maxRecDepth 100000 in
theorem gn_X6_readTerm : Cond.instanceMethod yX6_readTerm ∈ gtbl := g_at 573 gwb_29.2.1
set_option maxRecDepth 100000 in
theorem gs_X6_readTerm : Cond.selects (fR 6) yX6_readTerm yX6_readTerm ∈ gtbl := g_at 9 gwb_29.2.2.1
set_option maxRecDepth 100000 in
theorem gp1_X6_readTerm : (parseMethodDescriptor yX6_readTerm.desc).map (fun d => d.parameters.length + 1) = some 1 := by decide +kernel
set_option maxRecDepth 100000 in
theorem gc_X6_readTerm : Cond.code yX6_readTerm cX6_readTerm 5 (some .boolean) ∈ gtbl := g_at 574 gwb_29.2.2.2.1
set_option maxRecDepth 100000 in
theorem gi_X6_readTerm : Cond.initialized yX6_readTerm.cls ∈ gtbl := g_at 78 gwb_29.2.2.2.2.1
set_option maxRecDepth 100000 in
theorem gh_X6_readTerm : yX6_readTerm.cls ≠ "java/lang/invoke/MethodHandle" ∧ yX6_readTerm.cls ≠ "java/lang/invoke/VarHandle" := ⟨by decide +kernel, by decide +kernel⟩
set_option maxRecDepth 100000 in
theorem gl_RX6_65 : Cond.methodLink RX6 65 yX6_readNumber ∈ gtbl := g_at 579 gwb_29.2.2.2.2.2.1
set_option maxRecDepth 100000 in
theorem gn_X6_readNumber : Cond.instanceMethod yX6_readNumber ∈ gtbl := g_at 581 gwb_29.2.2.2.2.2.2.1
set_option maxRecDepth 100000 in
theorem gs_X6_readNumber : Cond.selects (fR 6) yX6_readNumber yX6_readNumber ∈ gtbl := g_at 11 gwb_29.2.2.2.2.2.2.2
set_option maxRecDepth 100000 in
theorem gp1_X6_readNumber : (parseMethodDescriptor yX6_readNumber.desc).map (fun d => d.parameters.length + 1) = some 2 := by decide +kernel
set_option maxRecDepth 100000 in
theorem gwb_30 : (lw_tbl[582]? = some (Cond.code yX6_readNumber cX6_readNumber 5 (some .boolean)) ∧ goodWord (Cond.code yX6_readNumber cX6_readNumber 5 (some .boolean)) = true) ∧ (lw_tbl[78]? = some (Cond.initialized yX6_readNumber.cls) ∧ goodWord (Cond.initialized yX6_readNumber.cls) = true) ∧ (lw_tbl[596]? = some (Cond.methodLink RX6 78 yX5_closeLine) ∧ goodWord (Cond.methodLink RX6 78 yX5_closeLine) = true) ∧ (lw_tbl[597]? = some (Cond.instanceMethod yX5_closeLine) ∧ goodWord (Cond.instanceMethod yX5_closeLine) = true) ∧ (lw_tbl[598]? = some (Cond.selects (fR 5) yX5_closeLine yX5_closeLine) ∧ goodWord (Cond.selects (fR 5) yX5_closeLine yX5_closeLine) = true) ∧ (lw_tbl[599]? = some (Cond.code yX5_closeLine cX5_closeLine 4 none) ∧ goodWord (Cond.code yX5_closeLine cX5_closeLine 4 none) = true) ∧ (lw_tbl[79]? = some (Cond.initialized yX5_closeLine.cls) ∧ goodWord (Cond.initialized yX5_closeLine.cls) = true) ∧ (lw_tbl[575]? = some (Cond.methodLink RX6 82 yX6_isFigure) ∧ goodWord (Cond.methodLink RX6 82 yX6_isFigure) = true) := by decide +kernel
set_option maxRecDepth 100000 in
theorem gc_X6_readNumber : Cond.code yX6_readNumber cX6_readNumber 5 (some .boolean) ∈ gtbl := g_at 582 gwb_30.1
set_option maxRecDepth 100000 in
theorem gi_X6_readNumber : Cond.initialized yX6_readNumber.cls ∈ gtbl := g_at 78 gwb_30.2.1
set_option maxRecDepth 100000 in
theorem gh_X6_readNumber : yX6_readNumber.cls ≠ "java/lang/invoke/MethodHandle" ∧ yX6_readNumber.cls ≠ "java/lang/invoke/VarHandle" := ⟨by decide +kernel, by decide +kernel⟩
set_option maxRecDepth 100000 in
theorem gl_RX6_78 : Cond.methodLink RX6 78 yX5_closeLine ∈ gtbl := g_at 596 gwb_30.2.2.1
set_option maxRecDepth 100000 in
theorem gn_X5_closeLine : Cond.instanceMethod yX5_closeLine ∈ gtbl := g_at 597 gwb_30.2.2.2.1
set_option maxRecDepth 100000 in
theorem gs_X5_closeLine : Cond.selects (fR 5) yX5_closeLine yX5_closeLine ∈ gtbl := g_at 598 gwb_30.2.2.2.2.1
set_option maxRecDepth 100000 in
theorem gp1_X5_closeLine : (parseMethodDescriptor yX5_closeLine.desc).map (fun d => d.parameters.length + 1) = some 2 := by decide +kernel
set_option maxRecDepth 100000 in
theorem gc_X5_closeLine : Cond.code yX5_closeLine cX5_closeLine 4 none ∈ gtbl := g_at 599 gwb_30.2.2.2.2.2.1
set_option maxRecDepth 100000 in
theorem gi_X5_closeLine : Cond.initialized yX5_closeLine.cls ∈ gtbl := g_at 79 gwb_30.2.2.2.2.2.2.1
set_option maxRecDepth 100000 in
theorem gh_X5_closeLine : yX5_closeLine.cls ≠ "java/lang/invoke/MethodHandle" ∧ yX5_closeLine.cls ≠ "java/lang/invoke/VarHandle" := ⟨by decide +kernel, by decide +kernel⟩
set_option maxRecDepth 100000 in
theorem gl_RX6_82 : Cond.methodLink RX6 82 yX6_isFigure ∈ gtbl := g_at 575 gwb_30.2.2.2.2.2.2.2
set_option maxRecDepth 100000 in
theorem gwb_31 : (lw_tbl[577]? = some (Cond.instanceMethod yX6_isFigure) ∧ goodWord (Cond.instanceMethod yX6_isFigure) = true) ∧ (lw_tbl[10]? = some (Cond.selects (fR 6) yX6_isFigure yX6_isFigure) ∧ goodWord (Cond.selects (fR 6) yX6_isFigure yX6_isFigure) = true) ∧ (lw_tbl[578]? = some (Cond.code yX6_isFigure cX6_isFigure 1 (some .boolean)) ∧ goodWord (Cond.code yX6_isFigure cX6_isFigure 1 (some .boolean)) = true) ∧ (lw_tbl[78]? = some (Cond.initialized yX6_isFigure.cls) ∧ goodWord (Cond.initialized yX6_isFigure.cls) = true) ∧ (lw_tbl[584]? = some (Cond.methodLink RX6 85 yX6_readName) ∧ goodWord (Cond.methodLink RX6 85 yX6_readName) = true) ∧ (lw_tbl[586]? = some (Cond.instanceMethod yX6_readName) ∧ goodWord (Cond.instanceMethod yX6_readName) = true) ∧ (lw_tbl[12]? = some (Cond.selects (fR 6) yX6_readName yX6_readName) ∧ goodWord (Cond.selects (fR 6) yX6_readName yX6_readName) = true) ∧ (lw_tbl[587]? = some (Cond.code yX6_readName cX6_readName 4 (some .boolean)) ∧ goodWord (Cond.code yX6_readName cX6_readName 4 (some .boolean)) = true) := by decide +kernel
set_option maxRecDepth 100000 in
theorem gn_X6_isFigure : Cond.instanceMethod yX6_isFigure ∈ gtbl := g_at 577 gwb_31.1
set_option maxRecDepth 100000 in
theorem gs_X6_isFigure : Cond.selects (fR 6) yX6_isFigure yX6_isFigure ∈ gtbl := g_at 10 gwb_31.2.1
set_option maxRecDepth 100000 in
theorem gp1_X6_isFigure : (parseMethodDescriptor yX6_isFigure.desc).map (fun d => d.parameters.length + 1) = some 1 := by decide +kernel
set_option maxRecDepth 100000 in
theorem gc_X6_isFigure : Cond.code yX6_isFigure cX6_isFigure 1 (some .boolean) ∈ gtbl := g_at 578 gwb_31.2.2.1
set_option maxRecDepth 100000 in
theorem gi_X6_isFigure : Cond.initialized yX6_isFigure.cls ∈ gtbl := g_at 78 gwb_31.2.2.2.1
set_option maxRecDepth 100000 in
theorem gh_X6_isFigure : yX6_isFigure.cls ≠ "java/lang/invoke/MethodHandle" ∧ yX6_isFigure.cls ≠ "java/lang/invoke/VarHandle" := ⟨by decide +kernel, by decide +kernel⟩
set_option maxRecDepth 100000 in
theorem gl_RX6_85 : Cond.methodLink RX6 85 yX6_readName ∈ gtbl := g_at 584 gwb_31.2.2.2.2.1
set_option maxRecDepth 100000 in
theorem gn_X6_readName : Cond.instanceMethod yX6_readName ∈ gtbl := g_at 586 gwb_31.2.2.2.2.2.1
set_option maxRecDepth 100000 in
theorem gs_X6_readName : Cond.selects (fR 6) yX6_readName yX6_readName ∈ gtbl := g_at 12 gwb_31.2.2.2.2.2.2.1
set_option maxRecDepth 100000 in
theorem gp1_X6_readName : (parseMethodDescriptor yX6_readName.desc).map (fun d => d.parameters.length + 1) = some 1 := by decide +kernel
set_option maxRecDepth 100000 in
theorem gc_X6_readName : Cond.code yX6_readName cX6_readName 4 (some .boolean) ∈ gtbl := g_at 587 gwb_31.2.2.2.2.2.2.2
set_option maxRecDepth 100000 in
theorem gwb_32 : (lw_tbl[78]? = some (Cond.initialized yX6_readName.cls) ∧ goodWord (Cond.initialized yX6_readName.cls) = true) ∧ (lw_tbl[592]? = some (Cond.methodLink RX6 88 yX5_addTerm) ∧ goodWord (Cond.methodLink RX6 88 yX5_addTerm) = true) ∧ (lw_tbl[593]? = some (Cond.instanceMethod yX5_addTerm) ∧ goodWord (Cond.instanceMethod yX5_addTerm) = true) ∧ (lw_tbl[594]? = some (Cond.selects (fR 5) yX5_addTerm yX5_addTerm) ∧ goodWord (Cond.selects (fR 5) yX5_addTerm yX5_addTerm) = true) ∧ (lw_tbl[595]? = some (Cond.code yX5_addTerm cX5_addTerm 4 none) ∧ goodWord (Cond.code yX5_addTerm cX5_addTerm 4 none) = true) ∧ (lw_tbl[79]? = some (Cond.initialized yX5_addTerm.cls) ∧ goodWord (Cond.initialized yX5_addTerm.cls) = true) ∧ (lw_tbl[583]? = some (Cond.methodLink RX6 92 yJ9_min_7cf53) ∧ goodWord (Cond.methodLink RX6 92 yJ9_min_7cf53) = true) ∧ (lw_tbl[588]? = some (Cond.methodLink RX6 98 yX6_sideAhead) ∧ goodWord (Cond.methodLink RX6 98 yX6_sideAhead) = true) := by decide +kernel
set_option maxRecDepth 100000 in
theorem gi_X6_readName : Cond.initialized yX6_readName.cls ∈ gtbl := g_at 78 gwb_32.1
set_option maxRecDepth 100000 in
theorem gh_X6_readName : yX6_readName.cls ≠ "java/lang/invoke/MethodHandle" ∧ yX6_readName.cls ≠ "java/lang/invoke/VarHandle" := ⟨by decide +kernel, by decide +kernel⟩
set_option maxRecDepth 100000 in
theorem gl_RX6_88 : Cond.methodLink RX6 88 yX5_addTerm ∈ gtbl := g_at 592 gwb_32.2.1
set_option maxRecDepth 100000 in
theorem gn_X5_addTerm : Cond.instanceMethod yX5_addTerm ∈ gtbl := g_at 593 gwb_32.2.2.1
set_option maxRecDepth 100000 in
theorem gs_X5_addTerm : Cond.selects (fR 5) yX5_addTerm yX5_addTerm ∈ gtbl := g_at 594 gwb_32.2.2.2.1
set_option maxRecDepth 100000 in
theorem gp1_X5_addTerm : (parseMethodDescriptor yX5_addTerm.desc).map (fun d => d.parameters.length + 1) = some 4 := by decide +kernel
set_option maxRecDepth 100000 in
theorem gc_X5_addTerm : Cond.code yX5_addTerm cX5_addTerm 4 none ∈ gtbl := g_at 595 gwb_32.2.2.2.2.1
set_option maxRecDepth 100000 in
theorem gi_X5_addTerm : Cond.initialized yX5_addTerm.cls ∈ gtbl := g_at 79 gwb_32.2.2.2.2.2.1
set_option maxRecDepth 100000 in
theorem gh_X5_addTerm : yX5_addTerm.cls ≠ "java/lang/invoke/MethodHandle" ∧ yX5_addTerm.cls ≠ "java/lang/invoke/VarHandle" := ⟨by decide +kernel, by decide +kernel⟩
set_option maxRecDepth 100000 in
theorem gl_RX6_92 : Cond.methodLink RX6 92 yJ9_min_7cf53 ∈ gtbl := g_at 583 gwb_32.2.2.2.2.2.2.1
set_option maxRecDepth 100000 in
theorem gl_RX6_98 : Cond.methodLink RX6 98 yX6_sideAhead ∈ gtbl := g_at 588 gwb_32.2.2.2.2.2.2.2
set_option maxRecDepth 100000 in
theorem gwb_33 : (lw_tbl[590]? = some (Cond.instanceMethod yX6_sideAhead) ∧ goodWord (Cond.instanceMethod yX6_sideAhead) = true) ∧ (lw_tbl[13]? = some (Cond.selects (fR 6) yX6_sideAhead yX6_sideAhead) ∧ goodWord (Cond.selects (fR 6) yX6_sideAhead yX6_sideAhead) = true) ∧ (lw_tbl[591]? = some (Cond.code yX6_sideAhead cX6_sideAhead 1 (some .int)) ∧ goodWord (Cond.code yX6_sideAhead cX6_sideAhead 1 (some .int)) = true) ∧ (lw_tbl[78]? = some (Cond.initialized yX6_sideAhead.cls) ∧ goodWord (Cond.initialized yX6_sideAhead.cls) = true) ∧ (lw_tbl[242]? = some (Cond.methodLink RX7 11 yX5_init) ∧ goodWord (Cond.methodLink RX7 11 yX5_init) = true) ∧ (lw_tbl[243]? = some (Cond.methodLink RX7 37 yX7_clearFirsts) ∧ goodWord (Cond.methodLink RX7 37 yX7_clearFirsts) = true) ∧ (lw_tbl[244]? = some (Cond.instanceMethod yX7_clearFirsts) ∧ goodWord (Cond.instanceMethod yX7_clearFirsts) = true) ∧ (lw_tbl[245]? = some (Cond.selects (fR 7) yX7_clearFirsts yX7_clearFirsts) ∧ goodWord (Cond.selects (fR 7) yX7_clearFirsts yX7_clearFirsts) = true) := by decide +kernel
set_option maxRecDepth 100000 in
theorem gn_X6_sideAhead : Cond.instanceMethod yX6_sideAhead ∈ gtbl := g_at 590 gwb_33.1
set_option maxRecDepth 100000 in
theorem gs_X6_sideAhead : Cond.selects (fR 6) yX6_sideAhead yX6_sideAhead ∈ gtbl := g_at 13 gwb_33.2.1
set_option maxRecDepth 100000 in
theorem gp1_X6_sideAhead : (parseMethodDescriptor yX6_sideAhead.desc).map (fun d => d.parameters.length + 1) = some 1 := by decide +kernel
set_option maxRecDepth 100000 in
theorem gc_X6_sideAhead : Cond.code yX6_sideAhead cX6_sideAhead 1 (some .int) ∈ gtbl := g_at 591 gwb_33.2.2.1
set_option maxRecDepth 100000 in
theorem gi_X6_sideAhead : Cond.initialized yX6_sideAhead.cls ∈ gtbl := g_at 78 gwb_33.2.2.2.1
set_option maxRecDepth 100000 in
theorem gh_X6_sideAhead : yX6_sideAhead.cls ≠ "java/lang/invoke/MethodHandle" ∧ yX6_sideAhead.cls ≠ "java/lang/invoke/VarHandle" := ⟨by decide +kernel, by decide +kernel⟩
set_option maxRecDepth 100000 in
theorem gl_RX7_11 : Cond.methodLink RX7 11 yX5_init ∈ gtbl := g_at 242 gwb_33.2.2.2.2.1
set_option maxRecDepth 100000 in
theorem gl_RX7_37 : Cond.methodLink RX7 37 yX7_clearFirsts ∈ gtbl := g_at 243 gwb_33.2.2.2.2.2.1
set_option maxRecDepth 100000 in
theorem gn_X7_clearFirsts : Cond.instanceMethod yX7_clearFirsts ∈ gtbl := g_at 244 gwb_33.2.2.2.2.2.2.1
set_option maxRecDepth 100000 in
theorem gs_X7_clearFirsts : Cond.selects (fR 7) yX7_clearFirsts yX7_clearFirsts ∈ gtbl := g_at 245 gwb_33.2.2.2.2.2.2.2
set_option maxRecDepth 100000 in
theorem gp1_X7_clearFirsts : (parseMethodDescriptor yX7_clearFirsts.desc).map (fun d => d.parameters.length + 1) = some 1 := by decide +kernel
set_option maxRecDepth 100000 in
theorem gwb_34 : (lw_tbl[246]? = some (Cond.code yX7_clearFirsts cX7_clearFirsts 2 none) ∧ goodWord (Cond.code yX7_clearFirsts cX7_clearFirsts 2 none) = true) ∧ (lw_tbl[80]? = some (Cond.initialized yX7_clearFirsts.cls) ∧ goodWord (Cond.initialized yX7_clearFirsts.cls) = true) ∧ (lw_tbl[1031]? = some (Cond.methodLink RX7 41 yX5_takeAll) ∧ goodWord (Cond.methodLink RX7 41 yX5_takeAll) = true) ∧ (lw_tbl[605]? = some (Cond.instanceMethod yX5_takeAll) ∧ goodWord (Cond.instanceMethod yX5_takeAll) = true) ∧ (lw_tbl[606]? = some (Cond.selects (fR 5) yX5_takeAll yX5_takeAll) ∧ goodWord (Cond.selects (fR 5) yX5_takeAll yX5_takeAll) = true) ∧ (lw_tbl[607]? = some (Cond.code yX5_takeAll cX5_takeAll 3 none) ∧ goodWord (Cond.code yX5_takeAll cX5_takeAll 3 none) = true) ∧ (lw_tbl[79]? = some (Cond.initialized yX5_takeAll.cls) ∧ goodWord (Cond.initialized yX5_takeAll.cls) = true) ∧ (lw_tbl[654]? = some (Cond.methodLink RX7 55 yX7_firstAt) ∧ goodWord (Cond.methodLink RX7 55 yX7_firstAt) = true) := by decide +kernel
set_option maxRecDepth 100000 in
theorem gc_X7_clearFirsts : Cond.code yX7_clearFirsts cX7_clearFirsts 2 none ∈ gtbl := g_at 246 gwb_34.1
set_option maxRecDepth 100000 in
theorem gi_X7_clearFirsts : Cond.initialized yX7_clearFirsts.cls ∈ gtbl := g_at 80 gwb_34.2.1
set_option maxRecDepth 100000 in
theorem gh_X7_clearFirsts : yX7_clearFirsts.cls ≠ "java/lang/invoke/MethodHandle" ∧ yX7_clearFirsts.cls ≠ "java/lang/invoke/VarHandle" := ⟨by decide +kernel, by decide +kernel⟩
set_option maxRecDepth 100000 in
theorem gl_RX7_41 : Cond.methodLink RX7 41 yX5_takeAll ∈ gtbl := g_at 1031 gwb_34.2.2.1
set_option maxRecDepth 100000 in
theorem gn_X5_takeAll : Cond.instanceMethod yX5_takeAll ∈ gtbl := g_at 605 gwb_34.2.2.2.1
set_option maxRecDepth 100000 in
theorem gs_X5_takeAll : Cond.selects (fR 5) yX5_takeAll yX5_takeAll ∈ gtbl := g_at 606 gwb_34.2.2.2.2.1
set_option maxRecDepth 100000 in
theorem gp1_X5_takeAll : (parseMethodDescriptor yX5_takeAll.desc).map (fun d => d.parameters.length + 1) = some 2 := by decide +kernel
set_option maxRecDepth 100000 in
theorem gc_X5_takeAll : Cond.code yX5_takeAll cX5_takeAll 3 none ∈ gtbl := g_at 607 gwb_34.2.2.2.2.2.1
set_option maxRecDepth 100000 in
theorem gi_X5_takeAll : Cond.initialized yX5_takeAll.cls ∈ gtbl := g_at 79 gwb_34.2.2.2.2.2.2.1
set_option maxRecDepth 100000 in
theorem gh_X5_takeAll : yX5_takeAll.cls ≠ "java/lang/invoke/MethodHandle" ∧ yX5_takeAll.cls ≠ "java/lang/invoke/VarHandle" := ⟨by decide +kernel, by decide +kernel⟩
set_option maxRecDepth 100000 in
theorem gl_RX7_55 : Cond.methodLink RX7 55 yX7_firstAt ∈ gtbl := g_at 654 gwb_34.2.2.2.2.2.2.2
set_option maxRecDepth 100000 in
theorem gwb_35 : (lw_tbl[662]? = some (Cond.methodLink RX7 59 yX3_beside) ∧ goodWord (Cond.methodLink RX7 59 yX3_beside) = true) ∧ (lw_tbl[666]? = some (Cond.methodLink RX7 64 yJ9_floorDiv_7cf53) ∧ goodWord (Cond.methodLink RX7 64 yJ9_floorDiv_7cf53) = true) ∧ (lw_tbl[667]? = some (Cond.static yJ9_floorDiv_7cf53) ∧ goodWord (Cond.static yJ9_floorDiv_7cf53) = true) ∧ (lw_tbl[668]? = some (Cond.code yJ9_floorDiv_7cf53 prog_15_method_47_code 3 (some .int)) ∧ goodWord (Cond.code yJ9_floorDiv_7cf53 prog_15_method_47_code 3 (some .int)) = true) ∧ (lw_tbl[77]? = some (Cond.initialized yJ9_floorDiv_7cf53.cls) ∧ goodWord (Cond.initialized yJ9_floorDiv_7cf53.cls) = true) ∧ (lw_tbl[379]? = some (Cond.instanceMethod yX9_init) ∧ goodWord (Cond.instanceMethod yX9_init) = true) ∧ (lw_tbl[380]? = some (Cond.code yX9_init cX9_init 1 none) ∧ goodWord (Cond.code yX9_init cX9_init 1 none) = true) ∧ (lw_tbl[85]? = some (Cond.initialized yX9_init.cls) ∧ goodWord (Cond.initialized yX9_init.cls) = true) := by decide +kernel
set_option maxRecDepth 100000 in
theorem gl_RX7_59 : Cond.methodLink RX7 59 yX3_beside ∈ gtbl := g_at 662 gwb_35.1
set_option maxRecDepth 100000 in
theorem gl_RX7_64 : Cond.methodLink RX7 64 yJ9_floorDiv_7cf53 ∈ gtbl := g_at 666 gwb_35.2.1
set_option maxRecDepth 100000 in
theorem gt_J9_floorDiv_7cf53 : Cond.static yJ9_floorDiv_7cf53 ∈ gtbl := g_at 667 gwb_35.2.2.1
set_option maxRecDepth 100000 in
theorem gp0_J9_floorDiv_7cf53 : (parseMethodDescriptor yJ9_floorDiv_7cf53.desc).map (fun d => d.parameters.length) = some 2 := by decide +kernel
set_option maxRecDepth 100000 in
theorem gc_J9_floorDiv_7cf53 : Cond.code yJ9_floorDiv_7cf53 prog_15_method_47_code 3 (some .int) ∈ gtbl := g_at 668 gwb_35.2.2.2.1
set_option maxRecDepth 100000 in
theorem gi_J9_floorDiv_7cf53 : Cond.initialized yJ9_floorDiv_7cf53.cls ∈ gtbl := g_at 77 gwb_35.2.2.2.2.1
set_option maxRecDepth 100000 in
theorem gh_J9_floorDiv_7cf53 : yJ9_floorDiv_7cf53.cls ≠ "java/lang/invoke/MethodHandle" ∧ yJ9_floorDiv_7cf53.cls ≠ "java/lang/invoke/VarHandle" := ⟨by decide +kernel, by decide +kernel⟩
set_option maxRecDepth 100000 in
theorem gn_X9_init : Cond.instanceMethod yX9_init ∈ gtbl := g_at 379 gwb_35.2.2.2.2.2.1
set_option maxRecDepth 100000 in
theorem gp1_X9_init : (parseMethodDescriptor yX9_init.desc).map (fun d => d.parameters.length + 1) = some 1 := by decide +kernel
set_option maxRecDepth 100000 in
theorem gc_X9_init : Cond.code yX9_init cX9_init 1 none ∈ gtbl := g_at 380 gwb_35.2.2.2.2.2.2.1
set_option maxRecDepth 100000 in
theorem gi_X9_init : Cond.initialized yX9_init.cls ∈ gtbl := g_at 85 gwb_35.2.2.2.2.2.2.2
set_option maxRecDepth 100000 in
theorem gh_X9_init : yX9_init.cls ≠ "java/lang/invoke/MethodHandle" ∧ yX9_init.cls ≠ "java/lang/invoke/VarHandle" := ⟨by decide +kernel, by decide +kernel⟩
set_option maxRecDepth 100000 in
theorem gwb_36 : (lw_tbl[973]? = some (Cond.methodLink RX8 38 yX9_deal) ∧ goodWord (Cond.methodLink RX8 38 yX9_deal) = true) ∧ (lw_tbl[974]? = some (Cond.instanceMethod yX9_deal) ∧ goodWord (Cond.instanceMethod yX9_deal) = true) ∧ (lw_tbl[975]? = some (Cond.selects (fR 9) yX9_deal yX9_deal) ∧ goodWord (Cond.selects (fR 9) yX9_deal yX9_deal) = true) ∧ (lw_tbl[976]? = some (Cond.code yX9_deal cX9_deal 6 none) ∧ goodWord (Cond.code yX9_deal cX9_deal 6 none) = true) ∧ (lw_tbl[85]? = some (Cond.initialized yX9_deal.cls) ∧ goodWord (Cond.initialized yX9_deal.cls) = true) ∧ (lw_tbl[978]? = some (Cond.methodLink RX8 42 yX9_endsAhead) ∧ goodWord (Cond.methodLink RX8 42 yX9_endsAhead) = true) ∧ (lw_tbl[979]? = some (Cond.instanceMethod yX9_endsAhead) ∧ goodWord (Cond.instanceMethod yX9_endsAhead) = true) ∧ (lw_tbl[980]? = some (Cond.selects (fR 9) yX9_endsAhead yX9_endsAhead) ∧ goodWord (Cond.selects (fR 9) yX9_endsAhead yX9_endsAhead) = true) := by decide +kernel
set_option maxRecDepth 100000 in
theorem gl_RX8_38 : Cond.methodLink RX8 38 yX9_deal ∈ gtbl := g_at 973 gwb_36.1
set_option maxRecDepth 100000 in
theorem gn_X9_deal : Cond.instanceMethod yX9_deal ∈ gtbl := g_at 974 gwb_36.2.1
set_option maxRecDepth 100000 in
theorem gs_X9_deal : Cond.selects (fR 9) yX9_deal yX9_deal ∈ gtbl := g_at 975 gwb_36.2.2.1
set_option maxRecDepth 100000 in
theorem gp1_X9_deal : (parseMethodDescriptor yX9_deal.desc).map (fun d => d.parameters.length + 1) = some 4 := by decide +kernel
set_option maxRecDepth 100000 in
theorem gc_X9_deal : Cond.code yX9_deal cX9_deal 6 none ∈ gtbl := g_at 976 gwb_36.2.2.2.1
set_option maxRecDepth 100000 in
theorem gi_X9_deal : Cond.initialized yX9_deal.cls ∈ gtbl := g_at 85 gwb_36.2.2.2.2.1
set_option maxRecDepth 100000 in
theorem gh_X9_deal : yX9_deal.cls ≠ "java/lang/invoke/MethodHandle" ∧ yX9_deal.cls ≠ "java/lang/invoke/VarHandle" := ⟨by decide +kernel, by decide +kernel⟩
set_option maxRecDepth 100000 in
theorem gl_RX8_42 : Cond.methodLink RX8 42 yX9_endsAhead ∈ gtbl := g_at 978 gwb_36.2.2.2.2.2.1
set_option maxRecDepth 100000 in
theorem gn_X9_endsAhead : Cond.instanceMethod yX9_endsAhead ∈ gtbl := g_at 979 gwb_36.2.2.2.2.2.2.1
set_option maxRecDepth 100000 in
theorem gs_X9_endsAhead : Cond.selects (fR 9) yX9_endsAhead yX9_endsAhead ∈ gtbl := g_at 980 gwb_36.2.2.2.2.2.2.2
set_option maxRecDepth 100000 in
theorem gp1_X9_endsAhead : (parseMethodDescriptor yX9_endsAhead.desc).map (fun d => d.parameters.length + 1) = some 5 := by decide +kernel
set_option maxRecDepth 100000 in
theorem gwb_37 : (lw_tbl[981]? = some (Cond.code yX9_endsAhead cX9_endsAhead 6 (some .boolean)) ∧ goodWord (Cond.code yX9_endsAhead cX9_endsAhead 6 (some .boolean)) = true) ∧ (lw_tbl[85]? = some (Cond.initialized yX9_endsAhead.cls) ∧ goodWord (Cond.initialized yX9_endsAhead.cls) = true) ∧ (lw_tbl[992]? = some (Cond.methodLink RX8 46 yX8_take) ∧ goodWord (Cond.methodLink RX8 46 yX8_take) = true) ∧ (lw_tbl[994]? = some (Cond.instanceMethod yX8_take) ∧ goodWord (Cond.instanceMethod yX8_take) = true) ∧ (lw_tbl[38]? = some (Cond.selects (fR 8) yX8_take yX8_take) ∧ goodWord (Cond.selects (fR 8) yX8_take yX8_take) = true) ∧ (lw_tbl[995]? = some (Cond.code yX8_take cX8_take 3 none) ∧ goodWord (Cond.code yX8_take cX8_take 3 none) = true) ∧ (lw_tbl[86]? = some (Cond.initialized yX8_take.cls) ∧ goodWord (Cond.initialized yX8_take.cls) = true) ∧ (lw_tbl[996]? = some (Cond.methodLink RX8 50 yX9_lastMinute) ∧ goodWord (Cond.methodLink RX8 50 yX9_lastMinute) = true) := by decide +kernel
set_option maxRecDepth 100000 in
theorem gc_X9_endsAhead : Cond.code yX9_endsAhead cX9_endsAhead 6 (some .boolean) ∈ gtbl := g_at 981 gwb_37.1
set_option maxRecDepth 100000 in
theorem gi_X9_endsAhead : Cond.initialized yX9_endsAhead.cls ∈ gtbl := g_at 85 gwb_37.2.1
set_option maxRecDepth 100000 in
theorem gh_X9_endsAhead : yX9_endsAhead.cls ≠ "java/lang/invoke/MethodHandle" ∧ yX9_endsAhead.cls ≠ "java/lang/invoke/VarHandle" := ⟨by decide +kernel, by decide +kernel⟩
set_option maxRecDepth 100000 in
theorem gl_RX8_46 : Cond.methodLink RX8 46 yX8_take ∈ gtbl := g_at 992 gwb_37.2.2.1
set_option maxRecDepth 100000 in
theorem gn_X8_take : Cond.instanceMethod yX8_take ∈ gtbl := g_at 994 gwb_37.2.2.2.1
set_option maxRecDepth 100000 in
theorem gs_X8_take : Cond.selects (fR 8) yX8_take yX8_take ∈ gtbl := g_at 38 gwb_37.2.2.2.2.1
set_option maxRecDepth 100000 in
theorem gp1_X8_take : (parseMethodDescriptor yX8_take.desc).map (fun d => d.parameters.length + 1) = some 2 := by decide +kernel
set_option maxRecDepth 100000 in
theorem gc_X8_take : Cond.code yX8_take cX8_take 3 none ∈ gtbl := g_at 995 gwb_37.2.2.2.2.2.1
set_option maxRecDepth 100000 in
theorem gi_X8_take : Cond.initialized yX8_take.cls ∈ gtbl := g_at 86 gwb_37.2.2.2.2.2.2.1
set_option maxRecDepth 100000 in
theorem gh_X8_take : yX8_take.cls ≠ "java/lang/invoke/MethodHandle" ∧ yX8_take.cls ≠ "java/lang/invoke/VarHandle" := ⟨by decide +kernel, by decide +kernel⟩
set_option maxRecDepth 100000 in
theorem gl_RX8_50 : Cond.methodLink RX8 50 yX9_lastMinute ∈ gtbl := g_at 996 gwb_37.2.2.2.2.2.2.2
set_option maxRecDepth 100000 in
theorem gwb_38 : (lw_tbl[956]? = some (Cond.instanceMethod yX9_lastMinute) ∧ goodWord (Cond.instanceMethod yX9_lastMinute) = true) ∧ (lw_tbl[957]? = some (Cond.selects (fR 9) yX9_lastMinute yX9_lastMinute) ∧ goodWord (Cond.selects (fR 9) yX9_lastMinute yX9_lastMinute) = true) ∧ (lw_tbl[958]? = some (Cond.code yX9_lastMinute cX9_lastMinute 5 (some .int)) ∧ goodWord (Cond.code yX9_lastMinute cX9_lastMinute 5 (some .int)) = true) ∧ (lw_tbl[85]? = some (Cond.initialized yX9_lastMinute.cls) ∧ goodWord (Cond.initialized yX9_lastMinute.cls) = true) ∧ (lw_tbl[483]? = some (Cond.methodLink RX9 28 yX9_restart) ∧ goodWord (Cond.methodLink RX9 28 yX9_restart) = true) ∧ (lw_tbl[484]? = some (Cond.instanceMethod yX9_restart) ∧ goodWord (Cond.instanceMethod yX9_restart) = true) ∧ (lw_tbl[485]? = some (Cond.selects (fR 9) yX9_restart yX9_restart) ∧ goodWord (Cond.selects (fR 9) yX9_restart yX9_restart) = true) ∧ (lw_tbl[486]? = some (Cond.code yX9_restart cX9_restart 2 none) ∧ goodWord (Cond.code yX9_restart cX9_restart 2 none) = true) := by decide +kernel
set_option maxRecDepth 100000 in
theorem gn_X9_lastMinute : Cond.instanceMethod yX9_lastMinute ∈ gtbl := g_at 956 gwb_38.1
set_option maxRecDepth 100000 in
theorem gs_X9_lastMinute : Cond.selects (fR 9) yX9_lastMinute yX9_lastMinute ∈ gtbl := g_at 957 gwb_38.2.1
set_option maxRecDepth 100000 in
theorem gp1_X9_lastMinute : (parseMethodDescriptor yX9_lastMinute.desc).map (fun d => d.parameters.length + 1) = some 3 := by decide +kernel
set_option maxRecDepth 100000 in
theorem gc_X9_lastMinute : Cond.code yX9_lastMinute cX9_lastMinute 5 (some .int) ∈ gtbl := g_at 958 gwb_38.2.2.1
set_option maxRecDepth 100000 in
theorem gi_X9_lastMinute : Cond.initialized yX9_lastMinute.cls ∈ gtbl := g_at 85 gwb_38.2.2.2.1
set_option maxRecDepth 100000 in
theorem gh_X9_lastMinute : yX9_lastMinute.cls ≠ "java/lang/invoke/MethodHandle" ∧ yX9_lastMinute.cls ≠ "java/lang/invoke/VarHandle" := ⟨by decide +kernel, by decide +kernel⟩
set_option maxRecDepth 100000 in
theorem gl_RX9_28 : Cond.methodLink RX9 28 yX9_restart ∈ gtbl := g_at 483 gwb_38.2.2.2.2.1
set_option maxRecDepth 100000 in
theorem gn_X9_restart : Cond.instanceMethod yX9_restart ∈ gtbl := g_at 484 gwb_38.2.2.2.2.2.1
set_option maxRecDepth 100000 in
theorem gs_X9_restart : Cond.selects (fR 9) yX9_restart yX9_restart ∈ gtbl := g_at 485 gwb_38.2.2.2.2.2.2.1
set_option maxRecDepth 100000 in
theorem gp1_X9_restart : (parseMethodDescriptor yX9_restart.desc).map (fun d => d.parameters.length + 1) = some 1 := by decide +kernel
set_option maxRecDepth 100000 in
theorem gc_X9_restart : Cond.code yX9_restart cX9_restart 2 none ∈ gtbl := g_at 486 gwb_38.2.2.2.2.2.2.2
set_option maxRecDepth 100000 in
theorem gwb_39 : (lw_tbl[85]? = some (Cond.initialized yX9_restart.cls) ∧ goodWord (Cond.initialized yX9_restart.cls) = true) ∧ (lw_tbl[937]? = some (Cond.methodLink RX9 31 yX9_work) ∧ goodWord (Cond.methodLink RX9 31 yX9_work) = true) ∧ (lw_tbl[939]? = some (Cond.instanceMethod yX9_work) ∧ goodWord (Cond.instanceMethod yX9_work) = true) ∧ (lw_tbl[34]? = some (Cond.selects (fR 9) yX9_work yX9_work) ∧ goodWord (Cond.selects (fR 9) yX9_work yX9_work) = true) ∧ (lw_tbl[940]? = some (Cond.code yX9_work cX9_work 8 none) ∧ goodWord (Cond.code yX9_work cX9_work 8 none) = true) ∧ (lw_tbl[85]? = some (Cond.initialized yX9_work.cls) ∧ goodWord (Cond.initialized yX9_work.cls) = true) ∧ (lw_tbl[941]? = some (Cond.methodLink RX9 40 yX9_notesCome) ∧ goodWord (Cond.methodLink RX9 40 yX9_notesCome) = true) ∧ (lw_tbl[943]? = some (Cond.instanceMethod yX9_notesCome) ∧ goodWord (Cond.instanceMethod yX9_notesCome) = true) := by decide +kernel
set_option maxRecDepth 100000 in
theorem gi_X9_restart : Cond.initialized yX9_restart.cls ∈ gtbl := g_at 85 gwb_39.1
set_option maxRecDepth 100000 in
theorem gh_X9_restart : yX9_restart.cls ≠ "java/lang/invoke/MethodHandle" ∧ yX9_restart.cls ≠ "java/lang/invoke/VarHandle" := ⟨by decide +kernel, by decide +kernel⟩
set_option maxRecDepth 100000 in
theorem gl_RX9_31 : Cond.methodLink RX9 31 yX9_work ∈ gtbl := g_at 937 gwb_39.2.1
set_option maxRecDepth 100000 in
theorem gn_X9_work : Cond.instanceMethod yX9_work ∈ gtbl := g_at 939 gwb_39.2.2.1
set_option maxRecDepth 100000 in
theorem gs_X9_work : Cond.selects (fR 9) yX9_work yX9_work ∈ gtbl := g_at 34 gwb_39.2.2.2.1
set_option maxRecDepth 100000 in
theorem gp1_X9_work : (parseMethodDescriptor yX9_work.desc).map (fun d => d.parameters.length + 1) = some 4 := by decide +kernel
set_option maxRecDepth 100000 in
theorem gc_X9_work : Cond.code yX9_work cX9_work 8 none ∈ gtbl := g_at 940 gwb_39.2.2.2.2.1
set_option maxRecDepth 100000 in
theorem gi_X9_work : Cond.initialized yX9_work.cls ∈ gtbl := g_at 85 gwb_39.2.2.2.2.2.1
set_option maxRecDepth 100000 in
theorem gh_X9_work : yX9_work.cls ≠ "java/lang/invoke/MethodHandle" ∧ yX9_work.cls ≠ "java/lang/invoke/VarHandle" := ⟨by decide +kernel, by decide +kernel⟩
set_option maxRecDepth 100000 in
theorem gl_RX9_40 : Cond.methodLink RX9 40 yX9_notesCome ∈ gtbl := g_at 941 gwb_39.2.2.2.2.2.2.1
set_option maxRecDepth 100000 in
theorem gn_X9_notesCome : Cond.instanceMethod yX9_notesCome ∈ gtbl := g_at 943 gwb_39.2.2.2.2.2.2.2
set_option maxRecDepth 100000 in
theorem gwb_40 : (lw_tbl[35]? = some (Cond.selects (fR 9) yX9_notesCome yX9_notesCome) ∧ goodWord (Cond.selects (fR 9) yX9_notesCome yX9_notesCome) = true) ∧ (lw_tbl[944]? = some (Cond.code yX9_notesCome cX9_notesCome 9 (some .int)) ∧ goodWord (Cond.code yX9_notesCome cX9_notesCome 9 (some .int)) = true) ∧ (lw_tbl[85]? = some (Cond.initialized yX9_notesCome.cls) ∧ goodWord (Cond.initialized yX9_notesCome.cls) = true) ∧ (lw_tbl[950]? = some (Cond.methodLink RX9 44 yJ9_max_7cf53) ∧ goodWord (Cond.methodLink RX9 44 yJ9_max_7cf53) = true) ∧ (lw_tbl[951]? = some (Cond.methodLink RX9 50 yX2_paceOf) ∧ goodWord (Cond.methodLink RX9 50 yX2_paceOf) = true) ∧ (lw_tbl[952]? = some (Cond.instanceMethod yX2_paceOf) ∧ goodWord (Cond.instanceMethod yX2_paceOf) = true) ∧ (lw_tbl[953]? = some (Cond.selects (fR 2) yX2_paceOf yX2_paceOf) ∧ goodWord (Cond.selects (fR 2) yX2_paceOf yX2_paceOf) = true) ∧ (lw_tbl[954]? = some (Cond.code yX2_paceOf cX2_paceOf 2 (some .int)) ∧ goodWord (Cond.code yX2_paceOf cX2_paceOf 2 (some .int)) = true) := by decide +kernel
set_option maxRecDepth 100000 in
theorem gs_X9_notesCome : Cond.selects (fR 9) yX9_notesCome yX9_notesCome ∈ gtbl := g_at 35 gwb_40.1
set_option maxRecDepth 100000 in
theorem gp1_X9_notesCome : (parseMethodDescriptor yX9_notesCome.desc).map (fun d => d.parameters.length + 1) = some 5 := by decide +kernel
set_option maxRecDepth 100000 in
theorem gc_X9_notesCome : Cond.code yX9_notesCome cX9_notesCome 9 (some .int) ∈ gtbl := g_at 944 gwb_40.2.1
set_option maxRecDepth 100000 in
theorem gi_X9_notesCome : Cond.initialized yX9_notesCome.cls ∈ gtbl := g_at 85 gwb_40.2.2.1
set_option maxRecDepth 100000 in
theorem gh_X9_notesCome : yX9_notesCome.cls ≠ "java/lang/invoke/MethodHandle" ∧ yX9_notesCome.cls ≠ "java/lang/invoke/VarHandle" := ⟨by decide +kernel, by decide +kernel⟩
set_option maxRecDepth 100000 in
theorem gl_RX9_44 : Cond.methodLink RX9 44 yJ9_max_7cf53 ∈ gtbl := g_at 950 gwb_40.2.2.2.1
set_option maxRecDepth 100000 in
theorem gl_RX9_50 : Cond.methodLink RX9 50 yX2_paceOf ∈ gtbl := g_at 951 gwb_40.2.2.2.2.1
set_option maxRecDepth 100000 in
theorem gn_X2_paceOf : Cond.instanceMethod yX2_paceOf ∈ gtbl := g_at 952 gwb_40.2.2.2.2.2.1
set_option maxRecDepth 100000 in
theorem gs_X2_paceOf : Cond.selects (fR 2) yX2_paceOf yX2_paceOf ∈ gtbl := g_at 953 gwb_40.2.2.2.2.2.2.1
set_option maxRecDepth 100000 in
theorem gp1_X2_paceOf : (parseMethodDescriptor yX2_paceOf.desc).map (fun d => d.parameters.length + 1) = some 2 := by decide +kernel
set_option maxRecDepth 100000 in
theorem gc_X2_paceOf : Cond.code yX2_paceOf cX2_paceOf 2 (some .int) ∈ gtbl := g_at 954 gwb_40.2.2.2.2.2.2.2
set_option maxRecDepth 100000 in
theorem gwb_41 : (lw_tbl[84]? = some (Cond.initialized yX2_paceOf.cls) ∧ goodWord (Cond.initialized yX2_paceOf.cls) = true) ∧ (lw_tbl[945]? = some (Cond.methodLink RX9 56 yX3_beside) ∧ goodWord (Cond.methodLink RX9 56 yX3_beside) = true) ∧ (lw_tbl[946]? = some (Cond.methodLink RX9 62 yX9_ended) ∧ goodWord (Cond.methodLink RX9 62 yX9_ended) = true) ∧ (lw_tbl[947]? = some (Cond.instanceMethod yX9_ended) ∧ goodWord (Cond.instanceMethod yX9_ended) = true) ∧ (lw_tbl[948]? = some (Cond.selects (fR 9) yX9_ended yX9_ended) ∧ goodWord (Cond.selects (fR 9) yX9_ended yX9_ended) = true) ∧ (lw_tbl[949]? = some (Cond.code yX9_ended cX9_ended 4 (some .int)) ∧ goodWord (Cond.code yX9_ended cX9_ended 4 (some .int)) = true) ∧ (lw_tbl[85]? = some (Cond.initialized yX9_ended.cls) ∧ goodWord (Cond.initialized yX9_ended.cls) = true) ∧ (lw_tbl[977]? = some (Cond.methodLink RX9 65 yJ9_min_7cf53) ∧ goodWord (Cond.methodLink RX9 65 yJ9_min_7cf53) = true) := by decide +kernel
set_option maxRecDepth 100000 in
theorem gi_X2_paceOf : Cond.initialized yX2_paceOf.cls ∈ gtbl := g_at 84 gwb_41.1
set_option maxRecDepth 100000 in
theorem gh_X2_paceOf : yX2_paceOf.cls ≠ "java/lang/invoke/MethodHandle" ∧ yX2_paceOf.cls ≠ "java/lang/invoke/VarHandle" := ⟨by decide +kernel, by decide +kernel⟩
set_option maxRecDepth 100000 in
theorem gl_RX9_56 : Cond.methodLink RX9 56 yX3_beside ∈ gtbl := g_at 945 gwb_41.2.1
set_option maxRecDepth 100000 in
theorem gl_RX9_62 : Cond.methodLink RX9 62 yX9_ended ∈ gtbl := g_at 946 gwb_41.2.2.1
set_option maxRecDepth 100000 in
theorem gn_X9_ended : Cond.instanceMethod yX9_ended ∈ gtbl := g_at 947 gwb_41.2.2.2.1
set_option maxRecDepth 100000 in
theorem gs_X9_ended : Cond.selects (fR 9) yX9_ended yX9_ended ∈ gtbl := g_at 948 gwb_41.2.2.2.2.1
set_option maxRecDepth 100000 in
theorem gp1_X9_ended : (parseMethodDescriptor yX9_ended.desc).map (fun d => d.parameters.length + 1) = some 3 := by decide +kernel
set_option maxRecDepth 100000 in
theorem gc_X9_ended : Cond.code yX9_ended cX9_ended 4 (some .int) ∈ gtbl := g_at 949 gwb_41.2.2.2.2.2.1
set_option maxRecDepth 100000 in
theorem gi_X9_ended : Cond.initialized yX9_ended.cls ∈ gtbl := g_at 85 gwb_41.2.2.2.2.2.2.1
set_option maxRecDepth 100000 in
theorem gh_X9_ended : yX9_ended.cls ≠ "java/lang/invoke/MethodHandle" ∧ yX9_ended.cls ≠ "java/lang/invoke/VarHandle" := ⟨by decide +kernel, by decide +kernel⟩
set_option maxRecDepth 100000 in
theorem gl_RX9_65 : Cond.methodLink RX9 65 yJ9_min_7cf53 ∈ gtbl := g_at 977 gwb_41.2.2.2.2.2.2.2
set_option maxRecDepth 100000 in
theorem gwb_42 : (lw_tbl[982]? = some (Cond.methodLink RX9 68 yX9_addLoads) ∧ goodWord (Cond.methodLink RX9 68 yX9_addLoads) = true) ∧ (lw_tbl[984]? = some (Cond.instanceMethod yX9_addLoads) ∧ goodWord (Cond.instanceMethod yX9_addLoads) = true) ∧ (lw_tbl[36]? = some (Cond.selects (fR 9) yX9_addLoads yX9_addLoads) ∧ goodWord (Cond.selects (fR 9) yX9_addLoads yX9_addLoads) = true) ∧ (lw_tbl[985]? = some (Cond.code yX9_addLoads cX9_addLoads 5 none) ∧ goodWord (Cond.code yX9_addLoads cX9_addLoads 5 none) = true) ∧ (lw_tbl[85]? = some (Cond.initialized yX9_addLoads.cls) ∧ goodWord (Cond.initialized yX9_addLoads.cls) = true) ∧ (lw_tbl[986]? = some (Cond.methodLink RX9 72 yX9_isTooSlow) ∧ goodWord (Cond.methodLink RX9 72 yX9_isTooSlow) = true) ∧ (lw_tbl[988]? = some (Cond.instanceMethod yX9_isTooSlow) ∧ goodWord (Cond.instanceMethod yX9_isTooSlow) = true) ∧ (lw_tbl[37]? = some (Cond.selects (fR 9) yX9_isTooSlow yX9_isTooSlow) ∧ goodWord (Cond.selects (fR 9) yX9_isTooSlow yX9_isTooSlow) = true) := by decide +kernel
set_option maxRecDepth 100000 in
theorem gl_RX9_68 : Cond.methodLink RX9 68 yX9_addLoads ∈ gtbl := g_at 982 gwb_42.1
set_option maxRecDepth 100000 in
theorem gn_X9_addLoads : Cond.instanceMethod yX9_addLoads ∈ gtbl := g_at 984 gwb_42.2.1
set_option maxRecDepth 100000 in
theorem gs_X9_addLoads : Cond.selects (fR 9) yX9_addLoads yX9_addLoads ∈ gtbl := g_at 36 gwb_42.2.2.1
set_option maxRecDepth 100000 in
theorem gp1_X9_addLoads : (parseMethodDescriptor yX9_addLoads.desc).map (fun d => d.parameters.length + 1) = some 3 := by decide +kernel
set_option maxRecDepth 100000 in
theorem gc_X9_addLoads : Cond.code yX9_addLoads cX9_addLoads 5 none ∈ gtbl := g_at 985 gwb_42.2.2.2.1
set_option maxRecDepth 100000 in
theorem gi_X9_addLoads : Cond.initialized yX9_addLoads.cls ∈ gtbl := g_at 85 gwb_42.2.2.2.2.1
set_option maxRecDepth 100000 in
theorem gh_X9_addLoads : yX9_addLoads.cls ≠ "java/lang/invoke/MethodHandle" ∧ yX9_addLoads.cls ≠ "java/lang/invoke/VarHandle" := ⟨by decide +kernel, by decide +kernel⟩
set_option maxRecDepth 100000 in
theorem gl_RX9_72 : Cond.methodLink RX9 72 yX9_isTooSlow ∈ gtbl := g_at 986 gwb_42.2.2.2.2.2.1
set_option maxRecDepth 100000 in
theorem gn_X9_isTooSlow : Cond.instanceMethod yX9_isTooSlow ∈ gtbl := g_at 988 gwb_42.2.2.2.2.2.2.1
set_option maxRecDepth 100000 in
theorem gs_X9_isTooSlow : Cond.selects (fR 9) yX9_isTooSlow yX9_isTooSlow ∈ gtbl := g_at 37 gwb_42.2.2.2.2.2.2.2
set_option maxRecDepth 100000 in
theorem gp1_X9_isTooSlow : (parseMethodDescriptor yX9_isTooSlow.desc).map (fun d => d.parameters.length + 1) = some 3 := by decide +kernel
set_option maxRecDepth 100000 in
theorem gwb_43 : (lw_tbl[989]? = some (Cond.code yX9_isTooSlow cX9_isTooSlow 4 (some .boolean)) ∧ goodWord (Cond.code yX9_isTooSlow cX9_isTooSlow 4 (some .boolean)) = true) ∧ (lw_tbl[85]? = some (Cond.initialized yX9_isTooSlow.cls) ∧ goodWord (Cond.initialized yX9_isTooSlow.cls) = true) ∧ (lw_tbl[990]? = some (Cond.methodLink RX9 76 yX9_reach) ∧ goodWord (Cond.methodLink RX9 76 yX9_reach) = true) ∧ (lw_tbl[934]? = some (Cond.instanceMethod yX9_reach) ∧ goodWord (Cond.instanceMethod yX9_reach) = true) ∧ (lw_tbl[935]? = some (Cond.selects (fR 9) yX9_reach yX9_reach) ∧ goodWord (Cond.selects (fR 9) yX9_reach yX9_reach) = true) ∧ (lw_tbl[936]? = some (Cond.code yX9_reach cX9_reach 5 none) ∧ goodWord (Cond.code yX9_reach cX9_reach 5 none) = true) ∧ (lw_tbl[85]? = some (Cond.initialized yX9_reach.cls) ∧ goodWord (Cond.initialized yX9_reach.cls) = true) ∧ (lw_tbl[991]? = some (Cond.methodLink RX9 79 yX9_lastMinute) ∧ goodWord (Cond.methodLink RX9 79 yX9_lastMinute) = true) := by decide +kernel
set_option maxRecDepth 100000 in
theorem gc_X9_isTooSlow : Cond.code yX9_isTooSlow cX9_isTooSlow 4 (some .boolean) ∈ gtbl := g_at 989 gwb_43.1
set_option maxRecDepth 100000 in
theorem gi_X9_isTooSlow : Cond.initialized yX9_isTooSlow.cls ∈ gtbl := g_at 85 gwb_43.2.1
set_option maxRecDepth 100000 in
theorem gh_X9_isTooSlow : yX9_isTooSlow.cls ≠ "java/lang/invoke/MethodHandle" ∧ yX9_isTooSlow.cls ≠ "java/lang/invoke/VarHandle" := ⟨by decide +kernel, by decide +kernel⟩
set_option maxRecDepth 100000 in
theorem gl_RX9_76 : Cond.methodLink RX9 76 yX9_reach ∈ gtbl := g_at 990 gwb_43.2.2.1
set_option maxRecDepth 100000 in
theorem gn_X9_reach : Cond.instanceMethod yX9_reach ∈ gtbl := g_at 934 gwb_43.2.2.2.1
set_option maxRecDepth 100000 in
theorem gs_X9_reach : Cond.selects (fR 9) yX9_reach yX9_reach ∈ gtbl := g_at 935 gwb_43.2.2.2.2.1
set_option maxRecDepth 100000 in
theorem gp1_X9_reach : (parseMethodDescriptor yX9_reach.desc).map (fun d => d.parameters.length + 1) = some 4 := by decide +kernel
set_option maxRecDepth 100000 in
theorem gc_X9_reach : Cond.code yX9_reach cX9_reach 5 none ∈ gtbl := g_at 936 gwb_43.2.2.2.2.2.1
set_option maxRecDepth 100000 in
theorem gi_X9_reach : Cond.initialized yX9_reach.cls ∈ gtbl := g_at 85 gwb_43.2.2.2.2.2.2.1
set_option maxRecDepth 100000 in
theorem gh_X9_reach : yX9_reach.cls ≠ "java/lang/invoke/MethodHandle" ∧ yX9_reach.cls ≠ "java/lang/invoke/VarHandle" := ⟨by decide +kernel, by decide +kernel⟩
set_option maxRecDepth 100000 in
theorem gl_RX9_79 : Cond.methodLink RX9 79 yX9_lastMinute ∈ gtbl := g_at 991 gwb_43.2.2.2.2.2.2.2
set_option maxRecDepth 100000 in
theorem gwb_44 : (lw_tbl[99]? = some (Cond.methodLink RX10 9 yX3_init) ∧ goodWord (Cond.methodLink RX10 9 yX3_init) = true) ∧ (lw_tbl[100]? = some (Cond.instanceMethod yX3_init) ∧ goodWord (Cond.instanceMethod yX3_init) = true) ∧ (lw_tbl[101]? = some (Cond.code yX3_init cX3_init 3 none) ∧ goodWord (Cond.code yX3_init cX3_init 3 none) = true) ∧ (lw_tbl[76]? = some (Cond.initialized yX3_init.cls) ∧ goodWord (Cond.initialized yX3_init.cls) = true) ∧ (lw_tbl[145]? = some (Cond.instanceMethod yX6_init) ∧ goodWord (Cond.instanceMethod yX6_init) = true) ∧ (lw_tbl[146]? = some (Cond.code yX6_init cX6_init 1 none) ∧ goodWord (Cond.code yX6_init cX6_init 1 none) = true) ∧ (lw_tbl[78]? = some (Cond.initialized yX6_init.cls) ∧ goodWord (Cond.initialized yX6_init.cls) = true) ∧ (lw_tbl[237]? = some (Cond.methodLink RX10 30 yX7_init) ∧ goodWord (Cond.methodLink RX10 30 yX7_init) = true) := by decide +kernel
set_option maxRecDepth 100000 in
theorem gl_RX10_9 : Cond.methodLink RX10 9 yX3_init ∈ gtbl := g_at 99 gwb_44.1
set_option maxRecDepth 100000 in
theorem gn_X3_init : Cond.instanceMethod yX3_init ∈ gtbl := g_at 100 gwb_44.2.1
set_option maxRecDepth 100000 in
theorem gp1_X3_init : (parseMethodDescriptor yX3_init.desc).map (fun d => d.parameters.length + 1) = some 3 := by decide +kernel
set_option maxRecDepth 100000 in
theorem gc_X3_init : Cond.code yX3_init cX3_init 3 none ∈ gtbl := g_at 101 gwb_44.2.2.1
set_option maxRecDepth 100000 in
theorem gi_X3_init : Cond.initialized yX3_init.cls ∈ gtbl := g_at 76 gwb_44.2.2.2.1
set_option maxRecDepth 100000 in
theorem gh_X3_init : yX3_init.cls ≠ "java/lang/invoke/MethodHandle" ∧ yX3_init.cls ≠ "java/lang/invoke/VarHandle" := ⟨by decide +kernel, by decide +kernel⟩
set_option maxRecDepth 100000 in
theorem gn_X6_init : Cond.instanceMethod yX6_init ∈ gtbl := g_at 145 gwb_44.2.2.2.2.1
set_option maxRecDepth 100000 in
theorem gp1_X6_init : (parseMethodDescriptor yX6_init.desc).map (fun d => d.parameters.length + 1) = some 1 := by decide +kernel
set_option maxRecDepth 100000 in
theorem gc_X6_init : Cond.code yX6_init cX6_init 1 none ∈ gtbl := g_at 146 gwb_44.2.2.2.2.2.1
set_option maxRecDepth 100000 in
theorem gi_X6_init : Cond.initialized yX6_init.cls ∈ gtbl := g_at 78 gwb_44.2.2.2.2.2.2.1
set_option maxRecDepth 100000 in
theorem gh_X6_init : yX6_init.cls ≠ "java/lang/invoke/MethodHandle" ∧ yX6_init.cls ≠ "java/lang/invoke/VarHandle" := ⟨by decide +kernel, by decide +kernel⟩
set_option maxRecDepth 100000 in
theorem gl_RX10_30 : Cond.methodLink RX10 30 yX7_init ∈ gtbl := g_at 237 gwb_44.2.2.2.2.2.2.2
set_option maxRecDepth 100000 in
theorem gwb_45 : (lw_tbl[238]? = some (Cond.instanceMethod yX7_init) ∧ goodWord (Cond.instanceMethod yX7_init) = true) ∧ (lw_tbl[239]? = some (Cond.code yX7_init cX7_init 1 none) ∧ goodWord (Cond.code yX7_init cX7_init 1 none) = true) ∧ (lw_tbl[80]? = some (Cond.initialized yX7_init.cls) ∧ goodWord (Cond.initialized yX7_init.cls) = true) ∧ (lw_tbl[287]? = some (Cond.methodLink RX10 41 yX0_init) ∧ goodWord (Cond.methodLink RX10 41 yX0_init) = true) ∧ (lw_tbl[288]? = some (Cond.instanceMethod yX0_init) ∧ goodWord (Cond.instanceMethod yX0_init) = true) ∧ (lw_tbl[289]? = some (Cond.code yX0_init cX0_init 3 none) ∧ goodWord (Cond.code yX0_init cX0_init 3 none) = true) ∧ (lw_tbl[81]? = some (Cond.initialized yX0_init.cls) ∧ goodWord (Cond.initialized yX0_init.cls) = true) ∧ (lw_tbl[314]? = some (Cond.instanceMethod yX4_init) ∧ goodWord (Cond.instanceMethod yX4_init) = true) := by decide +kernel
set_option maxRecDepth 100000 in
theorem gn_X7_init : Cond.instanceMethod yX7_init ∈ gtbl := g_at 238 gwb_45.1
set_option maxRecDepth 100000 in
theorem gp1_X7_init : (parseMethodDescriptor yX7_init.desc).map (fun d => d.parameters.length + 1) = some 1 := by decide +kernel
set_option maxRecDepth 100000 in
theorem gc_X7_init : Cond.code yX7_init cX7_init 1 none ∈ gtbl := g_at 239 gwb_45.2.1
set_option maxRecDepth 100000 in
theorem gi_X7_init : Cond.initialized yX7_init.cls ∈ gtbl := g_at 80 gwb_45.2.2.1
set_option maxRecDepth 100000 in
theorem gh_X7_init : yX7_init.cls ≠ "java/lang/invoke/MethodHandle" ∧ yX7_init.cls ≠ "java/lang/invoke/VarHandle" := ⟨by decide +kernel, by decide +kernel⟩
set_option maxRecDepth 100000 in
theorem gl_RX10_41 : Cond.methodLink RX10 41 yX0_init ∈ gtbl := g_at 287 gwb_45.2.2.2.1
set_option maxRecDepth 100000 in
theorem gn_X0_init : Cond.instanceMethod yX0_init ∈ gtbl := g_at 288 gwb_45.2.2.2.2.1
set_option maxRecDepth 100000 in
theorem gp1_X0_init : (parseMethodDescriptor yX0_init.desc).map (fun d => d.parameters.length + 1) = some 3 := by decide +kernel
set_option maxRecDepth 100000 in
theorem gc_X0_init : Cond.code yX0_init cX0_init 3 none ∈ gtbl := g_at 289 gwb_45.2.2.2.2.2.1
set_option maxRecDepth 100000 in
theorem gi_X0_init : Cond.initialized yX0_init.cls ∈ gtbl := g_at 81 gwb_45.2.2.2.2.2.2.1
set_option maxRecDepth 100000 in
theorem gh_X0_init : yX0_init.cls ≠ "java/lang/invoke/MethodHandle" ∧ yX0_init.cls ≠ "java/lang/invoke/VarHandle" := ⟨by decide +kernel, by decide +kernel⟩
set_option maxRecDepth 100000 in
theorem gn_X4_init : Cond.instanceMethod yX4_init ∈ gtbl := g_at 314 gwb_45.2.2.2.2.2.2.2
set_option maxRecDepth 100000 in
theorem gp1_X4_init : (parseMethodDescriptor yX4_init.desc).map (fun d => d.parameters.length + 1) = some 1 := by decide +kernel
set_option maxRecDepth 100000 in
theorem gwb_46 : (lw_tbl[315]? = some (Cond.code yX4_init cX4_init 1 none) ∧ goodWord (Cond.code yX4_init cX4_init 1 none) = true) ∧ (lw_tbl[82]? = some (Cond.initialized yX4_init.cls) ∧ goodWord (Cond.initialized yX4_init.cls) = true) ∧ (lw_tbl[326]? = some (Cond.methodLink RX10 66 yX1_init) ∧ goodWord (Cond.methodLink RX10 66 yX1_init) = true) ∧ (lw_tbl[327]? = some (Cond.instanceMethod yX1_init) ∧ goodWord (Cond.instanceMethod yX1_init) = true) ∧ (lw_tbl[328]? = some (Cond.code yX1_init cX1_init 1 none) ∧ goodWord (Cond.code yX1_init cX1_init 1 none) = true) ∧ (lw_tbl[83]? = some (Cond.initialized yX1_init.cls) ∧ goodWord (Cond.initialized yX1_init.cls) = true) ∧ (lw_tbl[362]? = some (Cond.methodLink RX10 73 yX2_init) ∧ goodWord (Cond.methodLink RX10 73 yX2_init) = true) ∧ (lw_tbl[363]? = some (Cond.instanceMethod yX2_init) ∧ goodWord (Cond.instanceMethod yX2_init) = true) := by decide +kernel
set_option maxRecDepth 100000 in
theorem gc_X4_init : Cond.code yX4_init cX4_init 1 none ∈ gtbl := g_at 315 gwb_46.1
set_option maxRecDepth 100000 in
theorem gi_X4_init : Cond.initialized yX4_init.cls ∈ gtbl := g_at 82 gwb_46.2.1
set_option maxRecDepth 100000 in
theorem gh_X4_init : yX4_init.cls ≠ "java/lang/invoke/MethodHandle" ∧ yX4_init.cls ≠ "java/lang/invoke/VarHandle" := ⟨by decide +kernel, by decide +kernel⟩
set_option maxRecDepth 100000 in
theorem gl_RX10_66 : Cond.methodLink RX10 66 yX1_init ∈ gtbl := g_at 326 gwb_46.2.2.1
set_option maxRecDepth 100000 in
theorem gn_X1_init : Cond.instanceMethod yX1_init ∈ gtbl := g_at 327 gwb_46.2.2.2.1
set_option maxRecDepth 100000 in
theorem gp1_X1_init : (parseMethodDescriptor yX1_init.desc).map (fun d => d.parameters.length + 1) = some 1 := by decide +kernel
set_option maxRecDepth 100000 in
theorem gc_X1_init : Cond.code yX1_init cX1_init 1 none ∈ gtbl := g_at 328 gwb_46.2.2.2.2.1
set_option maxRecDepth 100000 in
theorem gi_X1_init : Cond.initialized yX1_init.cls ∈ gtbl := g_at 83 gwb_46.2.2.2.2.2.1
set_option maxRecDepth 100000 in
theorem gh_X1_init : yX1_init.cls ≠ "java/lang/invoke/MethodHandle" ∧ yX1_init.cls ≠ "java/lang/invoke/VarHandle" := ⟨by decide +kernel, by decide +kernel⟩
set_option maxRecDepth 100000 in
theorem gl_RX10_73 : Cond.methodLink RX10 73 yX2_init ∈ gtbl := g_at 362 gwb_46.2.2.2.2.2.2.1
set_option maxRecDepth 100000 in
theorem gn_X2_init : Cond.instanceMethod yX2_init ∈ gtbl := g_at 363 gwb_46.2.2.2.2.2.2.2
set_option maxRecDepth 100000 in
theorem gp1_X2_init : (parseMethodDescriptor yX2_init.desc).map (fun d => d.parameters.length + 1) = some 1 := by decide +kernel
set_option maxRecDepth 100000 in
theorem gwb_47 : (lw_tbl[364]? = some (Cond.code yX2_init cX2_init 2 none) ∧ goodWord (Cond.code yX2_init cX2_init 2 none) = true) ∧ (lw_tbl[84]? = some (Cond.initialized yX2_init.cls) ∧ goodWord (Cond.initialized yX2_init.cls) = true) ∧ (lw_tbl[403]? = some (Cond.instanceMethod yX8_init) ∧ goodWord (Cond.instanceMethod yX8_init) = true) ∧ (lw_tbl[404]? = some (Cond.code yX8_init cX8_init 1 none) ∧ goodWord (Cond.code yX8_init cX8_init 1 none) = true) ∧ (lw_tbl[86]? = some (Cond.initialized yX8_init.cls) ∧ goodWord (Cond.initialized yX8_init.cls) = true) ∧ (lw_tbl[476]? = some (Cond.methodLink RX10 96 yX3_shape) ∧ goodWord (Cond.methodLink RX10 96 yX3_shape) = true) ∧ (lw_tbl[477]? = some (Cond.methodLink RX10 100 yX7_clearFirsts) ∧ goodWord (Cond.methodLink RX10 100 yX7_clearFirsts) = true) ∧ (lw_tbl[478]? = some (Cond.methodLink RX10 109 yX1_clearTold) ∧ goodWord (Cond.methodLink RX10 109 yX1_clearTold) = true) := by decide +kernel
set_option maxRecDepth 100000 in
theorem gc_X2_init : Cond.code yX2_init cX2_init 2 none ∈ gtbl := g_at 364 gwb_47.1
set_option maxRecDepth 100000 in
theorem gi_X2_init : Cond.initialized yX2_init.cls ∈ gtbl := g_at 84 gwb_47.2.1
set_option maxRecDepth 100000 in
theorem gh_X2_init : yX2_init.cls ≠ "java/lang/invoke/MethodHandle" ∧ yX2_init.cls ≠ "java/lang/invoke/VarHandle" := ⟨by decide +kernel, by decide +kernel⟩
set_option maxRecDepth 100000 in
theorem gn_X8_init : Cond.instanceMethod yX8_init ∈ gtbl := g_at 403 gwb_47.2.2.1
set_option maxRecDepth 100000 in
theorem gp1_X8_init : (parseMethodDescriptor yX8_init.desc).map (fun d => d.parameters.length + 1) = some 1 := by decide +kernel
set_option maxRecDepth 100000 in
theorem gc_X8_init : Cond.code yX8_init cX8_init 1 none ∈ gtbl := g_at 404 gwb_47.2.2.2.1
set_option maxRecDepth 100000 in
theorem gi_X8_init : Cond.initialized yX8_init.cls ∈ gtbl := g_at 86 gwb_47.2.2.2.2.1
set_option maxRecDepth 100000 in
theorem gh_X8_init : yX8_init.cls ≠ "java/lang/invoke/MethodHandle" ∧ yX8_init.cls ≠ "java/lang/invoke/VarHandle" := ⟨by decide +kernel, by decide +kernel⟩
set_option maxRecDepth 100000 in
theorem gl_RX10_96 : Cond.methodLink RX10 96 yX3_shape ∈ gtbl := g_at 476 gwb_47.2.2.2.2.2.1
set_option maxRecDepth 100000 in
theorem gl_RX10_100 : Cond.methodLink RX10 100 yX7_clearFirsts ∈ gtbl := g_at 477 gwb_47.2.2.2.2.2.2.1
set_option maxRecDepth 100000 in
theorem gl_RX10_109 : Cond.methodLink RX10 109 yX1_clearTold ∈ gtbl := g_at 478 gwb_47.2.2.2.2.2.2.2
set_option maxRecDepth 100000 in
theorem gwb_48 : (lw_tbl[479]? = some (Cond.methodLink RX10 112 yX9_giveAllToFirst) ∧ goodWord (Cond.methodLink RX10 112 yX9_giveAllToFirst) = true) ∧ (lw_tbl[480]? = some (Cond.instanceMethod yX9_giveAllToFirst) ∧ goodWord (Cond.instanceMethod yX9_giveAllToFirst) = true) ∧ (lw_tbl[481]? = some (Cond.selects (fR 9) yX9_giveAllToFirst yX9_giveAllToFirst) ∧ goodWord (Cond.selects (fR 9) yX9_giveAllToFirst yX9_giveAllToFirst) = true) ∧ (lw_tbl[482]? = some (Cond.code yX9_giveAllToFirst cX9_giveAllToFirst 2 none) ∧ goodWord (Cond.code yX9_giveAllToFirst cX9_giveAllToFirst 2 none) = true) ∧ (lw_tbl[85]? = some (Cond.initialized yX9_giveAllToFirst.cls) ∧ goodWord (Cond.initialized yX9_giveAllToFirst.cls) = true) ∧ (lw_tbl[487]? = some (Cond.methodLink RX10 115 yX10_forgetNumbers) ∧ goodWord (Cond.methodLink RX10 115 yX10_forgetNumbers) = true) ∧ (lw_tbl[489]? = some (Cond.instanceMethod yX10_forgetNumbers) ∧ goodWord (Cond.instanceMethod yX10_forgetNumbers) = true) ∧ (lw_tbl[1]? = some (Cond.selects (fR 10) yX10_forgetNumbers yX10_forgetNumbers) ∧ goodWord (Cond.selects (fR 10) yX10_forgetNumbers yX10_forgetNumbers) = true) := by decide +kernel
set_option maxRecDepth 100000 in
theorem gl_RX10_112 : Cond.methodLink RX10 112 yX9_giveAllToFirst ∈ gtbl := g_at 479 gwb_48.1
set_option maxRecDepth 100000 in
theorem gn_X9_giveAllToFirst : Cond.instanceMethod yX9_giveAllToFirst ∈ gtbl := g_at 480 gwb_48.2.1
set_option maxRecDepth 100000 in
theorem gs_X9_giveAllToFirst : Cond.selects (fR 9) yX9_giveAllToFirst yX9_giveAllToFirst ∈ gtbl := g_at 481 gwb_48.2.2.1
set_option maxRecDepth 100000 in
theorem gp1_X9_giveAllToFirst : (parseMethodDescriptor yX9_giveAllToFirst.desc).map (fun d => d.parameters.length + 1) = some 1 := by decide +kernel
set_option maxRecDepth 100000 in
theorem gc_X9_giveAllToFirst : Cond.code yX9_giveAllToFirst cX9_giveAllToFirst 2 none ∈ gtbl := g_at 482 gwb_48.2.2.2.1
set_option maxRecDepth 100000 in
theorem gi_X9_giveAllToFirst : Cond.initialized yX9_giveAllToFirst.cls ∈ gtbl := g_at 85 gwb_48.2.2.2.2.1
set_option maxRecDepth 100000 in
theorem gh_X9_giveAllToFirst : yX9_giveAllToFirst.cls ≠ "java/lang/invoke/MethodHandle" ∧ yX9_giveAllToFirst.cls ≠ "java/lang/invoke/VarHandle" := ⟨by decide +kernel, by decide +kernel⟩
set_option maxRecDepth 100000 in
theorem gl_RX10_115 : Cond.methodLink RX10 115 yX10_forgetNumbers ∈ gtbl := g_at 487 gwb_48.2.2.2.2.2.1
set_option maxRecDepth 100000 in
theorem gn_X10_forgetNumbers : Cond.instanceMethod yX10_forgetNumbers ∈ gtbl := g_at 489 gwb_48.2.2.2.2.2.2.1
set_option maxRecDepth 100000 in
theorem gs_X10_forgetNumbers : Cond.selects (fR 10) yX10_forgetNumbers yX10_forgetNumbers ∈ gtbl := g_at 1 gwb_48.2.2.2.2.2.2.2
set_option maxRecDepth 100000 in
theorem gp1_X10_forgetNumbers : (parseMethodDescriptor yX10_forgetNumbers.desc).map (fun d => d.parameters.length + 1) = some 1 := by decide +kernel
set_option maxRecDepth 100000 in
theorem gwb_49 : (lw_tbl[490]? = some (Cond.code yX10_forgetNumbers cX10_forgetNumbers 1 none) ∧ goodWord (Cond.code yX10_forgetNumbers cX10_forgetNumbers 1 none) = true) ∧ (lw_tbl[75]? = some (Cond.initialized yX10_forgetNumbers.cls) ∧ goodWord (Cond.initialized yX10_forgetNumbers.cls) = true) ∧ (lw_tbl[503]? = some (Cond.methodLink RX10 118 yX10_forgetTimes) ∧ goodWord (Cond.methodLink RX10 118 yX10_forgetTimes) = true) ∧ (lw_tbl[505]? = some (Cond.instanceMethod yX10_forgetTimes) ∧ goodWord (Cond.instanceMethod yX10_forgetTimes) = true) ∧ (lw_tbl[3]? = some (Cond.selects (fR 10) yX10_forgetTimes yX10_forgetTimes) ∧ goodWord (Cond.selects (fR 10) yX10_forgetTimes yX10_forgetTimes) = true) ∧ (lw_tbl[506]? = some (Cond.code yX10_forgetTimes cX10_forgetTimes 1 none) ∧ goodWord (Cond.code yX10_forgetTimes cX10_forgetTimes 1 none) = true) ∧ (lw_tbl[75]? = some (Cond.initialized yX10_forgetTimes.cls) ∧ goodWord (Cond.initialized yX10_forgetTimes.cls) = true) ∧ (lw_tbl[516]? = some (Cond.methodLink RX10 124 yX10_reshape) ∧ goodWord (Cond.methodLink RX10 124 yX10_reshape) = true) := by decide +kernel
set_option maxRecDepth 100000 in
theorem gc_X10_forgetNumbers : Cond.code yX10_forgetNumbers cX10_forgetNumbers 1 none ∈ gtbl := g_at 490 gwb_49.1
set_option maxRecDepth 100000 in
theorem gi_X10_forgetNumbers : Cond.initialized yX10_forgetNumbers.cls ∈ gtbl := g_at 75 gwb_49.2.1
set_option maxRecDepth 100000 in
theorem gh_X10_forgetNumbers : yX10_forgetNumbers.cls ≠ "java/lang/invoke/MethodHandle" ∧ yX10_forgetNumbers.cls ≠ "java/lang/invoke/VarHandle" := ⟨by decide +kernel, by decide +kernel⟩
set_option maxRecDepth 100000 in
theorem gl_RX10_118 : Cond.methodLink RX10 118 yX10_forgetTimes ∈ gtbl := g_at 503 gwb_49.2.2.1
set_option maxRecDepth 100000 in
theorem gn_X10_forgetTimes : Cond.instanceMethod yX10_forgetTimes ∈ gtbl := g_at 505 gwb_49.2.2.2.1
set_option maxRecDepth 100000 in
theorem gs_X10_forgetTimes : Cond.selects (fR 10) yX10_forgetTimes yX10_forgetTimes ∈ gtbl := g_at 3 gwb_49.2.2.2.2.1
set_option maxRecDepth 100000 in
theorem gp1_X10_forgetTimes : (parseMethodDescriptor yX10_forgetTimes.desc).map (fun d => d.parameters.length + 1) = some 1 := by decide +kernel
set_option maxRecDepth 100000 in
theorem gc_X10_forgetTimes : Cond.code yX10_forgetTimes cX10_forgetTimes 1 none ∈ gtbl := g_at 506 gwb_49.2.2.2.2.2.1
set_option maxRecDepth 100000 in
theorem gi_X10_forgetTimes : Cond.initialized yX10_forgetTimes.cls ∈ gtbl := g_at 75 gwb_49.2.2.2.2.2.2.1
set_option maxRecDepth 100000 in
theorem gh_X10_forgetTimes : yX10_forgetTimes.cls ≠ "java/lang/invoke/MethodHandle" ∧ yX10_forgetTimes.cls ≠ "java/lang/invoke/VarHandle" := ⟨by decide +kernel, by decide +kernel⟩
set_option maxRecDepth 100000 in
theorem gl_RX10_124 : Cond.methodLink RX10 124 yX10_reshape ∈ gtbl := g_at 516 gwb_49.2.2.2.2.2.2.2
set_option maxRecDepth 100000 in
theorem gwb_50 : (lw_tbl[518]? = some (Cond.instanceMethod yX10_reshape) ∧ goodWord (Cond.instanceMethod yX10_reshape) = true) ∧ (lw_tbl[4]? = some (Cond.selects (fR 10) yX10_reshape yX10_reshape) ∧ goodWord (Cond.selects (fR 10) yX10_reshape yX10_reshape) = true) ∧ (lw_tbl[519]? = some (Cond.code yX10_reshape cX10_reshape 1 none) ∧ goodWord (Cond.code yX10_reshape cX10_reshape 1 none) = true) ∧ (lw_tbl[75]? = some (Cond.initialized yX10_reshape.cls) ∧ goodWord (Cond.initialized yX10_reshape.cls) = true) ∧ (lw_tbl[524]? = some (Cond.methodLink RX10 130 yX10_isLetter) ∧ goodWord (Cond.methodLink RX10 130 yX10_isLetter) = true) ∧ (lw_tbl[527]? = some (Cond.methodLink RX10 134 yX10_isTold) ∧ goodWord (Cond.methodLink RX10 134 yX10_isTold) = true) ∧ (lw_tbl[528]? = some (Cond.static yX10_isTold) ∧ goodWord (Cond.static yX10_isTold) = true) ∧ (lw_tbl[529]? = some (Cond.code yX10_isTold cX10_isTold 1 (some .boolean)) ∧ goodWord (Cond.code yX10_isTold cX10_isTold 1 (some .boolean)) = true) := by decide +kernel
set_option maxRecDepth 100000 in
theorem gn_X10_reshape : Cond.instanceMethod yX10_reshape ∈ gtbl := g_at 518 gwb_50.1
set_option maxRecDepth 100000 in
theorem gs_X10_reshape : Cond.selects (fR 10) yX10_reshape yX10_reshape ∈ gtbl := g_at 4 gwb_50.2.1
set_option maxRecDepth 100000 in
theorem gp1_X10_reshape : (parseMethodDescriptor yX10_reshape.desc).map (fun d => d.parameters.length + 1) = some 1 := by decide +kernel
set_option maxRecDepth 100000 in
theorem gc_X10_reshape : Cond.code yX10_reshape cX10_reshape 1 none ∈ gtbl := g_at 519 gwb_50.2.2.1
set_option maxRecDepth 100000 in
theorem gi_X10_reshape : Cond.initialized yX10_reshape.cls ∈ gtbl := g_at 75 gwb_50.2.2.2.1
set_option maxRecDepth 100000 in
theorem gh_X10_reshape : yX10_reshape.cls ≠ "java/lang/invoke/MethodHandle" ∧ yX10_reshape.cls ≠ "java/lang/invoke/VarHandle" := ⟨by decide +kernel, by decide +kernel⟩
set_option maxRecDepth 100000 in
theorem gl_RX10_130 : Cond.methodLink RX10 130 yX10_isLetter ∈ gtbl := g_at 524 gwb_50.2.2.2.2.1
set_option maxRecDepth 100000 in
theorem gl_RX10_134 : Cond.methodLink RX10 134 yX10_isTold ∈ gtbl := g_at 527 gwb_50.2.2.2.2.2.1
set_option maxRecDepth 100000 in
theorem gt_X10_isTold : Cond.static yX10_isTold ∈ gtbl := g_at 528 gwb_50.2.2.2.2.2.2.1
set_option maxRecDepth 100000 in
theorem gp0_X10_isTold : (parseMethodDescriptor yX10_isTold.desc).map (fun d => d.parameters.length) = some 1 := by decide +kernel
set_option maxRecDepth 100000 in
theorem gc_X10_isTold : Cond.code yX10_isTold cX10_isTold 1 (some .boolean) ∈ gtbl := g_at 529 gwb_50.2.2.2.2.2.2.2
set_option maxRecDepth 100000 in
theorem gwb_51 : (lw_tbl[75]? = some (Cond.initialized yX10_isTold.cls) ∧ goodWord (Cond.initialized yX10_isTold.cls) = true) ∧ (lw_tbl[537]? = some (Cond.methodLink RX10 145 yX6_append) ∧ goodWord (Cond.methodLink RX10 145 yX6_append) = true) ∧ (lw_tbl[538]? = some (Cond.instanceMethod yX6_append) ∧ goodWord (Cond.instanceMethod yX6_append) = true) ∧ (lw_tbl[539]? = some (Cond.selects (fR 6) yX6_append yX6_append) ∧ goodWord (Cond.selects (fR 6) yX6_append yX6_append) = true) ∧ (lw_tbl[540]? = some (Cond.code yX6_append cX6_append 2 none) ∧ goodWord (Cond.code yX6_append cX6_append 2 none) = true) ∧ (lw_tbl[78]? = some (Cond.initialized yX6_append.cls) ∧ goodWord (Cond.initialized yX6_append.cls) = true) ∧ (lw_tbl[549]? = some (Cond.methodLink RX10 149 yX6_read) ∧ goodWord (Cond.methodLink RX10 149 yX6_read) = true) ∧ (lw_tbl[550]? = some (Cond.instanceMethod yX6_read) ∧ goodWord (Cond.instanceMethod yX6_read) = true) := by decide +kernel
set_option maxRecDepth 100000 in
theorem gi_X10_isTold : Cond.initialized yX10_isTold.cls ∈ gtbl := g_at 75 gwb_51.1
set_option maxRecDepth 100000 in
theorem gh_X10_isTold : yX10_isTold.cls ≠ "java/lang/invoke/MethodHandle" ∧ yX10_isTold.cls ≠ "java/lang/invoke/VarHandle" := ⟨by decide +kernel, by decide +kernel⟩
set_option maxRecDepth 100000 in
theorem gl_RX10_145 : Cond.methodLink RX10 145 yX6_append ∈ gtbl := g_at 537 gwb_51.2.1
set_option maxRecDepth 100000 in
theorem gn_X6_append : Cond.instanceMethod yX6_append ∈ gtbl := g_at 538 gwb_51.2.2.1
set_option maxRecDepth 100000 in
theorem gs_X6_append : Cond.selects (fR 6) yX6_append yX6_append ∈ gtbl := g_at 539 gwb_51.2.2.2.1
set_option maxRecDepth 100000 in
theorem gp1_X6_append : (parseMethodDescriptor yX6_append.desc).map (fun d => d.parameters.length + 1) = some 2 := by decide +kernel
set_option maxRecDepth 100000 in
theorem gc_X6_append : Cond.code yX6_append cX6_append 2 none ∈ gtbl := g_at 540 gwb_51.2.2.2.2.1
set_option maxRecDepth 100000 in
theorem gi_X6_append : Cond.initialized yX6_append.cls ∈ gtbl := g_at 78 gwb_51.2.2.2.2.2.1
set_option maxRecDepth 100000 in
theorem gh_X6_append : yX6_append.cls ≠ "java/lang/invoke/MethodHandle" ∧ yX6_append.cls ≠ "java/lang/invoke/VarHandle" := ⟨by decide +kernel, by decide +kernel⟩
set_option maxRecDepth 100000 in
theorem gl_RX10_149 : Cond.methodLink RX10 149 yX6_read ∈ gtbl := g_at 549 gwb_51.2.2.2.2.2.2.1
set_option maxRecDepth 100000 in
theorem gn_X6_read : Cond.instanceMethod yX6_read ∈ gtbl := g_at 550 gwb_51.2.2.2.2.2.2.2
set_option maxRecDepth 100000 in
theorem gwb_52 : (lw_tbl[551]? = some (Cond.selects (fR 6) yX6_read yX6_read) ∧ goodWord (Cond.selects (fR 6) yX6_read yX6_read) = true) ∧ (lw_tbl[552]? = some (Cond.code yX6_read cX6_read 2 (some .int)) ∧ goodWord (Cond.code yX6_read cX6_read 2 (some .int)) = true) ∧ (lw_tbl[78]? = some (Cond.initialized yX6_read.cls) ∧ goodWord (Cond.initialized yX6_read.cls) = true) ∧ (lw_tbl[604]? = some (Cond.methodLink RX10 158 yX5_takeAll) ∧ goodWord (Cond.methodLink RX10 158 yX5_takeAll) = true) ∧ (lw_tbl[612]? = some (Cond.methodLink RX10 180 yX5_hasProduct) ∧ goodWord (Cond.methodLink RX10 180 yX5_hasProduct) = true) ∧ (lw_tbl[625]? = some (Cond.methodLink RX10 183 yX10_isCell) ∧ goodWord (Cond.methodLink RX10 183 yX10_isCell) = true) ∧ (lw_tbl[627]? = some (Cond.instanceMethod yX10_isCell) ∧ goodWord (Cond.instanceMethod yX10_isCell) = true) ∧ (lw_tbl[14]? = some (Cond.selects (fR 10) yX10_isCell yX10_isCell) ∧ goodWord (Cond.selects (fR 10) yX10_isCell yX10_isCell) = true) := by decide +kernel
set_option maxRecDepth 100000 in
theorem gs_X6_read : Cond.selects (fR 6) yX6_read yX6_read ∈ gtbl := g_at 551 gwb_52.1
set_option maxRecDepth 100000 in
theorem gp1_X6_read : (parseMethodDescriptor yX6_read.desc).map (fun d => d.parameters.length + 1) = some 1 := by decide +kernel
set_option maxRecDepth 100000 in
theorem gc_X6_read : Cond.code yX6_read cX6_read 2 (some .int) ∈ gtbl := g_at 552 gwb_52.2.1
set_option maxRecDepth 100000 in
theorem gi_X6_read : Cond.initialized yX6_read.cls ∈ gtbl := g_at 78 gwb_52.2.2.1
set_option maxRecDepth 100000 in
theorem gh_X6_read : yX6_read.cls ≠ "java/lang/invoke/MethodHandle" ∧ yX6_read.cls ≠ "java/lang/invoke/VarHandle" := ⟨by decide +kernel, by decide +kernel⟩
set_option maxRecDepth 100000 in
theorem gl_RX10_158 : Cond.methodLink RX10 158 yX5_takeAll ∈ gtbl := g_at 604 gwb_52.2.2.2.1
set_option maxRecDepth 100000 in
theorem gl_RX10_180 : Cond.methodLink RX10 180 yX5_hasProduct ∈ gtbl := g_at 612 gwb_52.2.2.2.2.1
set_option maxRecDepth 100000 in
theorem gl_RX10_183 : Cond.methodLink RX10 183 yX10_isCell ∈ gtbl := g_at 625 gwb_52.2.2.2.2.2.1
set_option maxRecDepth 100000 in
theorem gn_X10_isCell : Cond.instanceMethod yX10_isCell ∈ gtbl := g_at 627 gwb_52.2.2.2.2.2.2.1
set_option maxRecDepth 100000 in
theorem gs_X10_isCell : Cond.selects (fR 10) yX10_isCell yX10_isCell ∈ gtbl := g_at 14 gwb_52.2.2.2.2.2.2.2
set_option maxRecDepth 100000 in
theorem gp1_X10_isCell : (parseMethodDescriptor yX10_isCell.desc).map (fun d => d.parameters.length + 1) = some 2 := by decide +kernel
set_option maxRecDepth 100000 in
theorem gwb_53 : (lw_tbl[628]? = some (Cond.code yX10_isCell cX10_isCell 2 (some .boolean)) ∧ goodWord (Cond.code yX10_isCell cX10_isCell 2 (some .boolean)) = true) ∧ (lw_tbl[75]? = some (Cond.initialized yX10_isCell.cls) ∧ goodWord (Cond.initialized yX10_isCell.cls) = true) ∧ (lw_tbl[634]? = some (Cond.methodLink RX10 190 yX10_isStep) ∧ goodWord (Cond.methodLink RX10 190 yX10_isStep) = true) ∧ (lw_tbl[635]? = some (Cond.static yX10_isStep) ∧ goodWord (Cond.static yX10_isStep) = true) ∧ (lw_tbl[636]? = some (Cond.code yX10_isStep cX10_isStep 1 (some .boolean)) ∧ goodWord (Cond.code yX10_isStep cX10_isStep 1 (some .boolean)) = true) ∧ (lw_tbl[75]? = some (Cond.initialized yX10_isStep.cls) ∧ goodWord (Cond.initialized yX10_isStep.cls) = true) ∧ (lw_tbl[638]? = some (Cond.methodLink RX10 194 yX10_reckoned) ∧ goodWord (Cond.methodLink RX10 194 yX10_reckoned) = true) ∧ (lw_tbl[640]? = some (Cond.instanceMethod yX10_reckoned) ∧ goodWord (Cond.instanceMethod yX10_reckoned) = true) := by decide +kernel
set_option maxRecDepth 100000 in
theorem gc_X10_isCell : Cond.code yX10_isCell cX10_isCell 2 (some .boolean) ∈ gtbl := g_at 628 gwb_53.1
set_option maxRecDepth 100000 in
theorem gi_X10_isCell : Cond.initialized yX10_isCell.cls ∈ gtbl := g_at 75 gwb_53.2.1
set_option maxRecDepth 100000 in
theorem gh_X10_isCell : yX10_isCell.cls ≠ "java/lang/invoke/MethodHandle" ∧ yX10_isCell.cls ≠ "java/lang/invoke/VarHandle" := ⟨by decide +kernel, by decide +kernel⟩
set_option maxRecDepth 100000 in
theorem gl_RX10_190 : Cond.methodLink RX10 190 yX10_isStep ∈ gtbl := g_at 634 gwb_53.2.2.1
set_option maxRecDepth 100000 in
theorem gt_X10_isStep : Cond.static yX10_isStep ∈ gtbl := g_at 635 gwb_53.2.2.2.1
set_option maxRecDepth 100000 in
theorem gp0_X10_isStep : (parseMethodDescriptor yX10_isStep.desc).map (fun d => d.parameters.length) = some 1 := by decide +kernel
set_option maxRecDepth 100000 in
theorem gc_X10_isStep : Cond.code yX10_isStep cX10_isStep 1 (some .boolean) ∈ gtbl := g_at 636 gwb_53.2.2.2.2.1
set_option maxRecDepth 100000 in
theorem gi_X10_isStep : Cond.initialized yX10_isStep.cls ∈ gtbl := g_at 75 gwb_53.2.2.2.2.2.1
set_option maxRecDepth 100000 in
theorem gh_X10_isStep : yX10_isStep.cls ≠ "java/lang/invoke/MethodHandle" ∧ yX10_isStep.cls ≠ "java/lang/invoke/VarHandle" := ⟨by decide +kernel, by decide +kernel⟩
set_option maxRecDepth 100000 in
theorem gl_RX10_194 : Cond.methodLink RX10 194 yX10_reckoned ∈ gtbl := g_at 638 gwb_53.2.2.2.2.2.2.1
set_option maxRecDepth 100000 in
theorem gn_X10_reckoned : Cond.instanceMethod yX10_reckoned ∈ gtbl := g_at 640 gwb_53.2.2.2.2.2.2.2
set_option maxRecDepth 100000 in
theorem gwb_54 : (lw_tbl[15]? = some (Cond.selects (fR 10) yX10_reckoned yX10_reckoned) ∧ goodWord (Cond.selects (fR 10) yX10_reckoned yX10_reckoned) = true) ∧ (lw_tbl[641]? = some (Cond.code yX10_reckoned cX10_reckoned 4 (some (.object "ForecastHall$Board"))) ∧ goodWord (Cond.code yX10_reckoned cX10_reckoned 4 (some (.object "ForecastHall$Board"))) = true) ∧ (lw_tbl[75]? = some (Cond.initialized yX10_reckoned.cls) ∧ goodWord (Cond.initialized yX10_reckoned.cls) = true) ∧ (lw_tbl[728]? = some (Cond.methodLink RX10 198 yX0_number) ∧ goodWord (Cond.methodLink RX10 198 yX0_number) = true) ∧ (lw_tbl[733]? = some (Cond.methodLink RX10 202 yX4_reach) ∧ goodWord (Cond.methodLink RX10 202 yX4_reach) = true) ∧ (lw_tbl[734]? = some (Cond.instanceMethod yX4_reach) ∧ goodWord (Cond.instanceMethod yX4_reach) = true) ∧ (lw_tbl[735]? = some (Cond.selects (fR 4) yX4_reach yX4_reach) ∧ goodWord (Cond.selects (fR 4) yX4_reach yX4_reach) = true) ∧ (lw_tbl[736]? = some (Cond.code yX4_reach cX4_reach 7 none) ∧ goodWord (Cond.code yX4_reach cX4_reach 7 none) = true) := by decide +kernel
set_option maxRecDepth 100000 in
theorem gs_X10_reckoned : Cond.selects (fR 10) yX10_reckoned yX10_reckoned ∈ gtbl := g_at 15 gwb_54.1
set_option maxRecDepth 100000 in
theorem gp1_X10_reckoned : (parseMethodDescriptor yX10_reckoned.desc).map (fun d => d.parameters.length + 1) = some 3 := by decide +kernel
set_option maxRecDepth 100000 in
theorem gc_X10_reckoned : Cond.code yX10_reckoned cX10_reckoned 4 (some (.object "ForecastHall$Board")) ∈ gtbl := g_at 641 gwb_54.2.1
set_option maxRecDepth 100000 in
theorem gi_X10_reckoned : Cond.initialized yX10_reckoned.cls ∈ gtbl := g_at 75 gwb_54.2.2.1
set_option maxRecDepth 100000 in
theorem gh_X10_reckoned : yX10_reckoned.cls ≠ "java/lang/invoke/MethodHandle" ∧ yX10_reckoned.cls ≠ "java/lang/invoke/VarHandle" := ⟨by decide +kernel, by decide +kernel⟩
set_option maxRecDepth 100000 in
theorem gl_RX10_198 : Cond.methodLink RX10 198 yX0_number ∈ gtbl := g_at 728 gwb_54.2.2.2.1
set_option maxRecDepth 100000 in
theorem gl_RX10_202 : Cond.methodLink RX10 202 yX4_reach ∈ gtbl := g_at 733 gwb_54.2.2.2.2.1
set_option maxRecDepth 100000 in
theorem gn_X4_reach : Cond.instanceMethod yX4_reach ∈ gtbl := g_at 734 gwb_54.2.2.2.2.2.1
set_option maxRecDepth 100000 in
theorem gs_X4_reach : Cond.selects (fR 4) yX4_reach yX4_reach ∈ gtbl := g_at 735 gwb_54.2.2.2.2.2.2.1
set_option maxRecDepth 100000 in
theorem gp1_X4_reach : (parseMethodDescriptor yX4_reach.desc).map (fun d => d.parameters.length + 1) = some 4 := by decide +kernel
set_option maxRecDepth 100000 in
theorem gc_X4_reach : Cond.code yX4_reach cX4_reach 7 none ∈ gtbl := g_at 736 gwb_54.2.2.2.2.2.2.2
set_option maxRecDepth 100000 in
theorem gwb_55 : (lw_tbl[82]? = some (Cond.initialized yX4_reach.cls) ∧ goodWord (Cond.initialized yX4_reach.cls) = true) ∧ (lw_tbl[767]? = some (Cond.methodLink RX10 206 yX4_has) ∧ goodWord (Cond.methodLink RX10 206 yX4_has) = true) ∧ (lw_tbl[773]? = some (Cond.methodLink RX10 215 yX0_rowSum) ∧ goodWord (Cond.methodLink RX10 215 yX0_rowSum) = true) ∧ (lw_tbl[785]? = some (Cond.methodLink RX10 219 yX10_isLaterStep) ∧ goodWord (Cond.methodLink RX10 219 yX10_isLaterStep) = true) ∧ (lw_tbl[786]? = some (Cond.static yX10_isLaterStep) ∧ goodWord (Cond.static yX10_isLaterStep) = true) ∧ (lw_tbl[787]? = some (Cond.code yX10_isLaterStep cX10_isLaterStep 1 (some .boolean)) ∧ goodWord (Cond.code yX10_isLaterStep cX10_isLaterStep 1 (some .boolean)) = true) ∧ (lw_tbl[75]? = some (Cond.initialized yX10_isLaterStep.cls) ∧ goodWord (Cond.initialized yX10_isLaterStep.cls) = true) ∧ (lw_tbl[788]? = some (Cond.methodLink RX10 222 yX7_addSlip) ∧ goodWord (Cond.methodLink RX10 222 yX7_addSlip) = true) := by decide +kernel
set_option maxRecDepth 100000 in
theorem gi_X4_reach : Cond.initialized yX4_reach.cls ∈ gtbl := g_at 82 gwb_55.1
set_option maxRecDepth 100000 in
theorem gh_X4_reach : yX4_reach.cls ≠ "java/lang/invoke/MethodHandle" ∧ yX4_reach.cls ≠ "java/lang/invoke/VarHandle" := ⟨by decide +kernel, by decide +kernel⟩
set_option maxRecDepth 100000 in
theorem gl_RX10_206 : Cond.methodLink RX10 206 yX4_has ∈ gtbl := g_at 767 gwb_55.2.1
set_option maxRecDepth 100000 in
theorem gl_RX10_215 : Cond.methodLink RX10 215 yX0_rowSum ∈ gtbl := g_at 773 gwb_55.2.2.1
set_option maxRecDepth 100000 in
theorem gl_RX10_219 : Cond.methodLink RX10 219 yX10_isLaterStep ∈ gtbl := g_at 785 gwb_55.2.2.2.1
set_option maxRecDepth 100000 in
theorem gt_X10_isLaterStep : Cond.static yX10_isLaterStep ∈ gtbl := g_at 786 gwb_55.2.2.2.2.1
set_option maxRecDepth 100000 in
theorem gp0_X10_isLaterStep : (parseMethodDescriptor yX10_isLaterStep.desc).map (fun d => d.parameters.length) = some 1 := by decide +kernel
set_option maxRecDepth 100000 in
theorem gc_X10_isLaterStep : Cond.code yX10_isLaterStep cX10_isLaterStep 1 (some .boolean) ∈ gtbl := g_at 787 gwb_55.2.2.2.2.2.1
set_option maxRecDepth 100000 in
theorem gi_X10_isLaterStep : Cond.initialized yX10_isLaterStep.cls ∈ gtbl := g_at 75 gwb_55.2.2.2.2.2.2.1
set_option maxRecDepth 100000 in
theorem gh_X10_isLaterStep : yX10_isLaterStep.cls ≠ "java/lang/invoke/MethodHandle" ∧ yX10_isLaterStep.cls ≠ "java/lang/invoke/VarHandle" := ⟨by decide +kernel, by decide +kernel⟩
set_option maxRecDepth 100000 in
theorem gl_RX10_222 : Cond.methodLink RX10 222 yX7_addSlip ∈ gtbl := g_at 788 gwb_55.2.2.2.2.2.2.2
set_option maxRecDepth 100000 in
theorem gwb_56 : (lw_tbl[789]? = some (Cond.instanceMethod yX7_addSlip) ∧ goodWord (Cond.instanceMethod yX7_addSlip) = true) ∧ (lw_tbl[790]? = some (Cond.selects (fR 7) yX7_addSlip yX7_addSlip) ∧ goodWord (Cond.selects (fR 7) yX7_addSlip yX7_addSlip) = true) ∧ (lw_tbl[791]? = some (Cond.code yX7_addSlip cX7_addSlip 5 none) ∧ goodWord (Cond.code yX7_addSlip cX7_addSlip 5 none) = true) ∧ (lw_tbl[80]? = some (Cond.initialized yX7_addSlip.cls) ∧ goodWord (Cond.initialized yX7_addSlip.cls) = true) ∧ (lw_tbl[499]? = some (Cond.methodLink RX10 226 yX10_forgetSlips) ∧ goodWord (Cond.methodLink RX10 226 yX10_forgetSlips) = true) ∧ (lw_tbl[501]? = some (Cond.instanceMethod yX10_forgetSlips) ∧ goodWord (Cond.instanceMethod yX10_forgetSlips) = true) ∧ (lw_tbl[2]? = some (Cond.selects (fR 10) yX10_forgetSlips yX10_forgetSlips) ∧ goodWord (Cond.selects (fR 10) yX10_forgetSlips yX10_forgetSlips) = true) ∧ (lw_tbl[502]? = some (Cond.code yX10_forgetSlips cX10_forgetSlips 1 none) ∧ goodWord (Cond.code yX10_forgetSlips cX10_forgetSlips 1 none) = true) := by decide +kernel
set_option maxRecDepth 100000 in
theorem gn_X7_addSlip : Cond.instanceMethod yX7_addSlip ∈ gtbl := g_at 789 gwb_56.1
set_option maxRecDepth 100000 in
theorem gs_X7_addSlip : Cond.selects (fR 7) yX7_addSlip yX7_addSlip ∈ gtbl := g_at 790 gwb_56.2.1
set_option maxRecDepth 100000 in
theorem gp1_X7_addSlip : (parseMethodDescriptor yX7_addSlip.desc).map (fun d => d.parameters.length + 1) = some 5 := by decide +kernel
set_option maxRecDepth 100000 in
theorem gc_X7_addSlip : Cond.code yX7_addSlip cX7_addSlip 5 none ∈ gtbl := g_at 791 gwb_56.2.2.1
set_option maxRecDepth 100000 in
theorem gi_X7_addSlip : Cond.initialized yX7_addSlip.cls ∈ gtbl := g_at 80 gwb_56.2.2.2.1
set_option maxRecDepth 100000 in
theorem gh_X7_addSlip : yX7_addSlip.cls ≠ "java/lang/invoke/MethodHandle" ∧ yX7_addSlip.cls ≠ "java/lang/invoke/VarHandle" := ⟨by decide +kernel, by decide +kernel⟩
set_option maxRecDepth 100000 in
theorem gl_RX10_226 : Cond.methodLink RX10 226 yX10_forgetSlips ∈ gtbl := g_at 499 gwb_56.2.2.2.2.1
set_option maxRecDepth 100000 in
theorem gn_X10_forgetSlips : Cond.instanceMethod yX10_forgetSlips ∈ gtbl := g_at 501 gwb_56.2.2.2.2.2.1
set_option maxRecDepth 100000 in
theorem gs_X10_forgetSlips : Cond.selects (fR 10) yX10_forgetSlips yX10_forgetSlips ∈ gtbl := g_at 2 gwb_56.2.2.2.2.2.2.1
set_option maxRecDepth 100000 in
theorem gp1_X10_forgetSlips : (parseMethodDescriptor yX10_forgetSlips.desc).map (fun d => d.parameters.length + 1) = some 1 := by decide +kernel
set_option maxRecDepth 100000 in
theorem gc_X10_forgetSlips : Cond.code yX10_forgetSlips cX10_forgetSlips 1 none ∈ gtbl := g_at 502 gwb_56.2.2.2.2.2.2.2
set_option maxRecDepth 100000 in
theorem gwb_57 : (lw_tbl[75]? = some (Cond.initialized yX10_forgetSlips.cls) ∧ goodWord (Cond.initialized yX10_forgetSlips.cls) = true) ∧ (lw_tbl[800]? = some (Cond.methodLink RX10 229 yX10_reckonWithout) ∧ goodWord (Cond.methodLink RX10 229 yX10_reckonWithout) = true) ∧ (lw_tbl[802]? = some (Cond.instanceMethod yX10_reckonWithout) ∧ goodWord (Cond.instanceMethod yX10_reckonWithout) = true) ∧ (lw_tbl[25]? = some (Cond.selects (fR 10) yX10_reckonWithout yX10_reckonWithout) ∧ goodWord (Cond.selects (fR 10) yX10_reckonWithout yX10_reckonWithout) = true) ∧ (lw_tbl[803]? = some (Cond.code yX10_reckonWithout cX10_reckonWithout 3 none) ∧ goodWord (Cond.code yX10_reckonWithout cX10_reckonWithout 3 none) = true) ∧ (lw_tbl[75]? = some (Cond.initialized yX10_reckonWithout.cls) ∧ goodWord (Cond.initialized yX10_reckonWithout.cls) = true) ∧ (lw_tbl[804]? = some (Cond.methodLink RX10 232 yX10_otherwiseUpTo) ∧ goodWord (Cond.methodLink RX10 232 yX10_otherwiseUpTo) = true) ∧ (lw_tbl[806]? = some (Cond.instanceMethod yX10_otherwiseUpTo) ∧ goodWord (Cond.instanceMethod yX10_otherwiseUpTo) = true) := by decide +kernel
set_option maxRecDepth 100000 in
theorem gi_X10_forgetSlips : Cond.initialized yX10_forgetSlips.cls ∈ gtbl := g_at 75 gwb_57.1
set_option maxRecDepth 100000 in
theorem gh_X10_forgetSlips : yX10_forgetSlips.cls ≠ "java/lang/invoke/MethodHandle" ∧ yX10_forgetSlips.cls ≠ "java/lang/invoke/VarHandle" := ⟨by decide +kernel, by decide +kernel⟩
set_option maxRecDepth 100000 in
theorem gl_RX10_229 : Cond.methodLink RX10 229 yX10_reckonWithout ∈ gtbl := g_at 800 gwb_57.2.1
set_option maxRecDepth 100000 in
theorem gn_X10_reckonWithout : Cond.instanceMethod yX10_reckonWithout ∈ gtbl := g_at 802 gwb_57.2.2.1
set_option maxRecDepth 100000 in
theorem gs_X10_reckonWithout : Cond.selects (fR 10) yX10_reckonWithout yX10_reckonWithout ∈ gtbl := g_at 25 gwb_57.2.2.2.1
set_option maxRecDepth 100000 in
theorem gp1_X10_reckonWithout : (parseMethodDescriptor yX10_reckonWithout.desc).map (fun d => d.parameters.length + 1) = some 3 := by decide +kernel
set_option maxRecDepth 100000 in
theorem gc_X10_reckonWithout : Cond.code yX10_reckonWithout cX10_reckonWithout 3 none ∈ gtbl := g_at 803 gwb_57.2.2.2.2.1
set_option maxRecDepth 100000 in
theorem gi_X10_reckonWithout : Cond.initialized yX10_reckonWithout.cls ∈ gtbl := g_at 75 gwb_57.2.2.2.2.2.1
set_option maxRecDepth 100000 in
theorem gh_X10_reckonWithout : yX10_reckonWithout.cls ≠ "java/lang/invoke/MethodHandle" ∧ yX10_reckonWithout.cls ≠ "java/lang/invoke/VarHandle" := ⟨by decide +kernel, by decide +kernel⟩
set_option maxRecDepth 100000 in
theorem gl_RX10_232 : Cond.methodLink RX10 232 yX10_otherwiseUpTo ∈ gtbl := g_at 804 gwb_57.2.2.2.2.2.2.1
set_option maxRecDepth 100000 in
theorem gn_X10_otherwiseUpTo : Cond.instanceMethod yX10_otherwiseUpTo ∈ gtbl := g_at 806 gwb_57.2.2.2.2.2.2.2
set_option maxRecDepth 100000 in
theorem gwb_58 : (lw_tbl[26]? = some (Cond.selects (fR 10) yX10_otherwiseUpTo yX10_otherwiseUpTo) ∧ goodWord (Cond.selects (fR 10) yX10_otherwiseUpTo yX10_otherwiseUpTo) = true) ∧ (lw_tbl[807]? = some (Cond.code yX10_otherwiseUpTo cX10_otherwiseUpTo 4 (some .int)) ∧ goodWord (Cond.code yX10_otherwiseUpTo cX10_otherwiseUpTo 4 (some .int)) = true) ∧ (lw_tbl[75]? = some (Cond.initialized yX10_otherwiseUpTo.cls) ∧ goodWord (Cond.initialized yX10_otherwiseUpTo.cls) = true) ∧ (lw_tbl[812]? = some (Cond.methodLink RX10 236 yX10_lastOtherwise) ∧ goodWord (Cond.methodLink RX10 236 yX10_lastOtherwise) = true) ∧ (lw_tbl[814]? = some (Cond.instanceMethod yX10_lastOtherwise) ∧ goodWord (Cond.instanceMethod yX10_lastOtherwise) = true) ∧ (lw_tbl[28]? = some (Cond.selects (fR 10) yX10_lastOtherwise yX10_lastOtherwise) ∧ goodWord (Cond.selects (fR 10) yX10_lastOtherwise yX10_lastOtherwise) = true) ∧ (lw_tbl[815]? = some (Cond.code yX10_lastOtherwise cX10_lastOtherwise 3 (some .int)) ∧ goodWord (Cond.code yX10_lastOtherwise cX10_lastOtherwise 3 (some .int)) = true) ∧ (lw_tbl[75]? = some (Cond.initialized yX10_lastOtherwise.cls) ∧ goodWord (Cond.initialized yX10_lastOtherwise.cls) = true) := by decide +kernel
set_option maxRecDepth 100000 in
theorem gs_X10_otherwiseUpTo : Cond.selects (fR 10) yX10_otherwiseUpTo yX10_otherwiseUpTo ∈ gtbl := g_at 26 gwb_58.1
set_option maxRecDepth 100000 in
theorem gp1_X10_otherwiseUpTo : (parseMethodDescriptor yX10_otherwiseUpTo.desc).map (fun d => d.parameters.length + 1) = some 2 := by decide +kernel
set_option maxRecDepth 100000 in
theorem gc_X10_otherwiseUpTo : Cond.code yX10_otherwiseUpTo cX10_otherwiseUpTo 4 (some .int) ∈ gtbl := g_at 807 gwb_58.2.1
set_option maxRecDepth 100000 in
theorem gi_X10_otherwiseUpTo : Cond.initialized yX10_otherwiseUpTo.cls ∈ gtbl := g_at 75 gwb_58.2.2.1
set_option maxRecDepth 100000 in
theorem gh_X10_otherwiseUpTo : yX10_otherwiseUpTo.cls ≠ "java/lang/invoke/MethodHandle" ∧ yX10_otherwiseUpTo.cls ≠ "java/lang/invoke/VarHandle" := ⟨by decide +kernel, by decide +kernel⟩
set_option maxRecDepth 100000 in
theorem gl_RX10_236 : Cond.methodLink RX10 236 yX10_lastOtherwise ∈ gtbl := g_at 812 gwb_58.2.2.2.1
set_option maxRecDepth 100000 in
theorem gn_X10_lastOtherwise : Cond.instanceMethod yX10_lastOtherwise ∈ gtbl := g_at 814 gwb_58.2.2.2.2.1
set_option maxRecDepth 100000 in
theorem gs_X10_lastOtherwise : Cond.selects (fR 10) yX10_lastOtherwise yX10_lastOtherwise ∈ gtbl := g_at 28 gwb_58.2.2.2.2.2.1
set_option maxRecDepth 100000 in
theorem gp1_X10_lastOtherwise : (parseMethodDescriptor yX10_lastOtherwise.desc).map (fun d => d.parameters.length + 1) = some 2 := by decide +kernel
set_option maxRecDepth 100000 in
theorem gc_X10_lastOtherwise : Cond.code yX10_lastOtherwise cX10_lastOtherwise 3 (some .int) ∈ gtbl := g_at 815 gwb_58.2.2.2.2.2.2.1
set_option maxRecDepth 100000 in
theorem gi_X10_lastOtherwise : Cond.initialized yX10_lastOtherwise.cls ∈ gtbl := g_at 75 gwb_58.2.2.2.2.2.2.2
set_option maxRecDepth 100000 in
theorem gh_X10_lastOtherwise : yX10_lastOtherwise.cls ≠ "java/lang/invoke/MethodHandle" ∧ yX10_lastOtherwise.cls ≠ "java/lang/invoke/VarHandle" := ⟨by decide +kernel, by decide +kernel⟩
set_option maxRecDepth 100000 in
theorem gwb_59 : (lw_tbl[808]? = some (Cond.methodLink RX10 239 yX10_otherwiseIn) ∧ goodWord (Cond.methodLink RX10 239 yX10_otherwiseIn) = true) ∧ (lw_tbl[810]? = some (Cond.instanceMethod yX10_otherwiseIn) ∧ goodWord (Cond.instanceMethod yX10_otherwiseIn) = true) ∧ (lw_tbl[27]? = some (Cond.selects (fR 10) yX10_otherwiseIn yX10_otherwiseIn) ∧ goodWord (Cond.selects (fR 10) yX10_otherwiseIn yX10_otherwiseIn) = true) ∧ (lw_tbl[811]? = some (Cond.code yX10_otherwiseIn cX10_otherwiseIn 5 (some .int)) ∧ goodWord (Cond.code yX10_otherwiseIn cX10_otherwiseIn 5 (some .int)) = true) ∧ (lw_tbl[75]? = some (Cond.initialized yX10_otherwiseIn.cls) ∧ goodWord (Cond.initialized yX10_otherwiseIn.cls) = true) ∧ (lw_tbl[820]? = some (Cond.methodLink RX10 242 yX5_keepsSum) ∧ goodWord (Cond.methodLink RX10 242 yX5_keepsSum) = true) ∧ (lw_tbl[821]? = some (Cond.instanceMethod yX5_keepsSum) ∧ goodWord (Cond.instanceMethod yX5_keepsSum) = true) ∧ (lw_tbl[822]? = some (Cond.selects (fR 5) yX5_keepsSum yX5_keepsSum) ∧ goodWord (Cond.selects (fR 5) yX5_keepsSum yX5_keepsSum) = true) := by decide +kernel
set_option maxRecDepth 100000 in
theorem gl_RX10_239 : Cond.methodLink RX10 239 yX10_otherwiseIn ∈ gtbl := g_at 808 gwb_59.1
set_option maxRecDepth 100000 in
theorem gn_X10_otherwiseIn : Cond.instanceMethod yX10_otherwiseIn ∈ gtbl := g_at 810 gwb_59.2.1
set_option maxRecDepth 100000 in
theorem gs_X10_otherwiseIn : Cond.selects (fR 10) yX10_otherwiseIn yX10_otherwiseIn ∈ gtbl := g_at 27 gwb_59.2.2.1
set_option maxRecDepth 100000 in
theorem gp1_X10_otherwiseIn : (parseMethodDescriptor yX10_otherwiseIn.desc).map (fun d => d.parameters.length + 1) = some 2 := by decide +kernel
set_option maxRecDepth 100000 in
theorem gc_X10_otherwiseIn : Cond.code yX10_otherwiseIn cX10_otherwiseIn 5 (some .int) ∈ gtbl := g_at 811 gwb_59.2.2.2.1
set_option maxRecDepth 100000 in
theorem gi_X10_otherwiseIn : Cond.initialized yX10_otherwiseIn.cls ∈ gtbl := g_at 75 gwb_59.2.2.2.2.1
set_option maxRecDepth 100000 in
theorem gh_X10_otherwiseIn : yX10_otherwiseIn.cls ≠ "java/lang/invoke/MethodHandle" ∧ yX10_otherwiseIn.cls ≠ "java/lang/invoke/VarHandle" := ⟨by decide +kernel, by decide +kernel⟩
set_option maxRecDepth 100000 in
theorem gl_RX10_242 : Cond.methodLink RX10 242 yX5_keepsSum ∈ gtbl := g_at 820 gwb_59.2.2.2.2.2.1
set_option maxRecDepth 100000 in
theorem gn_X5_keepsSum : Cond.instanceMethod yX5_keepsSum ∈ gtbl := g_at 821 gwb_59.2.2.2.2.2.2.1
set_option maxRecDepth 100000 in
theorem gs_X5_keepsSum : Cond.selects (fR 5) yX5_keepsSum yX5_keepsSum ∈ gtbl := g_at 822 gwb_59.2.2.2.2.2.2.2
set_option maxRecDepth 100000 in
theorem gp1_X5_keepsSum : (parseMethodDescriptor yX5_keepsSum.desc).map (fun d => d.parameters.length + 1) = some 2 := by decide +kernel
set_option maxRecDepth 100000 in
theorem gwb_60 : (lw_tbl[823]? = some (Cond.code yX5_keepsSum cX5_keepsSum 4 (some .boolean)) ∧ goodWord (Cond.code yX5_keepsSum cX5_keepsSum 4 (some .boolean)) = true) ∧ (lw_tbl[79]? = some (Cond.initialized yX5_keepsSum.cls) ∧ goodWord (Cond.initialized yX5_keepsSum.cls) = true) ∧ (lw_tbl[831]? = some (Cond.methodLink RX10 245 yX5_staysSmall) ∧ goodWord (Cond.methodLink RX10 245 yX5_staysSmall) = true) ∧ (lw_tbl[832]? = some (Cond.instanceMethod yX5_staysSmall) ∧ goodWord (Cond.instanceMethod yX5_staysSmall) = true) ∧ (lw_tbl[833]? = some (Cond.selects (fR 5) yX5_staysSmall yX5_staysSmall) ∧ goodWord (Cond.selects (fR 5) yX5_staysSmall yX5_staysSmall) = true) ∧ (lw_tbl[834]? = some (Cond.code yX5_staysSmall cX5_staysSmall 4 (some .boolean)) ∧ goodWord (Cond.code yX5_staysSmall cX5_staysSmall 4 (some .boolean)) = true) ∧ (lw_tbl[79]? = some (Cond.initialized yX5_staysSmall.cls) ∧ goodWord (Cond.initialized yX5_staysSmall.cls) = true) ∧ (lw_tbl[845]? = some (Cond.methodLink RX10 257 yX1_keepSum) ∧ goodWord (Cond.methodLink RX10 257 yX1_keepSum) = true) := by decide +kernel
set_option maxRecDepth 100000 in
theorem gc_X5_keepsSum : Cond.code yX5_keepsSum cX5_keepsSum 4 (some .boolean) ∈ gtbl := g_at 823 gwb_60.1
set_option maxRecDepth 100000 in
theorem gi_X5_keepsSum : Cond.initialized yX5_keepsSum.cls ∈ gtbl := g_at 79 gwb_60.2.1
set_option maxRecDepth 100000 in
theorem gh_X5_keepsSum : yX5_keepsSum.cls ≠ "java/lang/invoke/MethodHandle" ∧ yX5_keepsSum.cls ≠ "java/lang/invoke/VarHandle" := ⟨by decide +kernel, by decide +kernel⟩
set_option maxRecDepth 100000 in
theorem gl_RX10_245 : Cond.methodLink RX10 245 yX5_staysSmall ∈ gtbl := g_at 831 gwb_60.2.2.1
set_option maxRecDepth 100000 in
theorem gn_X5_staysSmall : Cond.instanceMethod yX5_staysSmall ∈ gtbl := g_at 832 gwb_60.2.2.2.1
set_option maxRecDepth 100000 in
theorem gs_X5_staysSmall : Cond.selects (fR 5) yX5_staysSmall yX5_staysSmall ∈ gtbl := g_at 833 gwb_60.2.2.2.2.1
set_option maxRecDepth 100000 in
theorem gp1_X5_staysSmall : (parseMethodDescriptor yX5_staysSmall.desc).map (fun d => d.parameters.length + 1) = some 2 := by decide +kernel
set_option maxRecDepth 100000 in
theorem gc_X5_staysSmall : Cond.code yX5_staysSmall cX5_staysSmall 4 (some .boolean) ∈ gtbl := g_at 834 gwb_60.2.2.2.2.2.1
set_option maxRecDepth 100000 in
theorem gi_X5_staysSmall : Cond.initialized yX5_staysSmall.cls ∈ gtbl := g_at 79 gwb_60.2.2.2.2.2.2.1
set_option maxRecDepth 100000 in
theorem gh_X5_staysSmall : yX5_staysSmall.cls ≠ "java/lang/invoke/MethodHandle" ∧ yX5_staysSmall.cls ≠ "java/lang/invoke/VarHandle" := ⟨by decide +kernel, by decide +kernel⟩
set_option maxRecDepth 100000 in
theorem gl_RX10_257 : Cond.methodLink RX10 257 yX1_keepSum ∈ gtbl := g_at 845 gwb_60.2.2.2.2.2.2.2
set_option maxRecDepth 100000 in
theorem gwb_61 : (lw_tbl[846]? = some (Cond.instanceMethod yX1_keepSum) ∧ goodWord (Cond.instanceMethod yX1_keepSum) = true) ∧ (lw_tbl[847]? = some (Cond.selects (fR 1) yX1_keepSum yX1_keepSum) ∧ goodWord (Cond.selects (fR 1) yX1_keepSum yX1_keepSum) = true) ∧ (lw_tbl[848]? = some (Cond.code yX1_keepSum cX1_keepSum 7 none) ∧ goodWord (Cond.code yX1_keepSum cX1_keepSum 7 none) = true) ∧ (lw_tbl[83]? = some (Cond.initialized yX1_keepSum.cls) ∧ goodWord (Cond.initialized yX1_keepSum.cls) = true) ∧ (lw_tbl[853]? = some (Cond.methodLink RX10 261 yX1_toldSums) ∧ goodWord (Cond.methodLink RX10 261 yX1_toldSums) = true) ∧ (lw_tbl[854]? = some (Cond.instanceMethod yX1_toldSums) ∧ goodWord (Cond.instanceMethod yX1_toldSums) = true) ∧ (lw_tbl[855]? = some (Cond.selects (fR 1) yX1_toldSums yX1_toldSums) ∧ goodWord (Cond.selects (fR 1) yX1_toldSums yX1_toldSums) = true) ∧ (lw_tbl[856]? = some (Cond.code yX1_toldSums cX1_toldSums 3 (some .int)) ∧ goodWord (Cond.code yX1_toldSums cX1_toldSums 3 (some .int)) = true) := by decide +kernel
set_option maxRecDepth 100000 in
theorem gn_X1_keepSum : Cond.instanceMethod yX1_keepSum ∈ gtbl := g_at 846 gwb_61.1
set_option maxRecDepth 100000 in
theorem gs_X1_keepSum : Cond.selects (fR 1) yX1_keepSum yX1_keepSum ∈ gtbl := g_at 847 gwb_61.2.1
set_option maxRecDepth 100000 in
theorem gp1_X1_keepSum : (parseMethodDescriptor yX1_keepSum.desc).map (fun d => d.parameters.length + 1) = some 6 := by decide +kernel
set_option maxRecDepth 100000 in
theorem gc_X1_keepSum : Cond.code yX1_keepSum cX1_keepSum 7 none ∈ gtbl := g_at 848 gwb_61.2.2.1
set_option maxRecDepth 100000 in
theorem gi_X1_keepSum : Cond.initialized yX1_keepSum.cls ∈ gtbl := g_at 83 gwb_61.2.2.2.1
set_option maxRecDepth 100000 in
theorem gh_X1_keepSum : yX1_keepSum.cls ≠ "java/lang/invoke/MethodHandle" ∧ yX1_keepSum.cls ≠ "java/lang/invoke/VarHandle" := ⟨by decide +kernel, by decide +kernel⟩
set_option maxRecDepth 100000 in
theorem gl_RX10_261 : Cond.methodLink RX10 261 yX1_toldSums ∈ gtbl := g_at 853 gwb_61.2.2.2.2.1
set_option maxRecDepth 100000 in
theorem gn_X1_toldSums : Cond.instanceMethod yX1_toldSums ∈ gtbl := g_at 854 gwb_61.2.2.2.2.2.1
set_option maxRecDepth 100000 in
theorem gs_X1_toldSums : Cond.selects (fR 1) yX1_toldSums yX1_toldSums ∈ gtbl := g_at 855 gwb_61.2.2.2.2.2.2.1
set_option maxRecDepth 100000 in
theorem gp1_X1_toldSums : (parseMethodDescriptor yX1_toldSums.desc).map (fun d => d.parameters.length + 1) = some 1 := by decide +kernel
set_option maxRecDepth 100000 in
theorem gc_X1_toldSums : Cond.code yX1_toldSums cX1_toldSums 3 (some .int) ∈ gtbl := g_at 856 gwb_61.2.2.2.2.2.2.2
set_option maxRecDepth 100000 in
theorem gwb_62 : (lw_tbl[83]? = some (Cond.initialized yX1_toldSums.cls) ∧ goodWord (Cond.initialized yX1_toldSums.cls) = true) ∧ (lw_tbl[857]? = some (Cond.methodLink RX10 267 yX1_failing) ∧ goodWord (Cond.methodLink RX10 267 yX1_failing) = true) ∧ (lw_tbl[858]? = some (Cond.instanceMethod yX1_failing) ∧ goodWord (Cond.instanceMethod yX1_failing) = true) ∧ (lw_tbl[859]? = some (Cond.selects (fR 1) yX1_failing yX1_failing) ∧ goodWord (Cond.selects (fR 1) yX1_failing yX1_failing) = true) ∧ (lw_tbl[860]? = some (Cond.code yX1_failing cX1_failing 5 (some .int)) ∧ goodWord (Cond.code yX1_failing cX1_failing 5 (some .int)) = true) ∧ (lw_tbl[83]? = some (Cond.initialized yX1_failing.cls) ∧ goodWord (Cond.initialized yX1_failing.cls) = true) ∧ (lw_tbl[870]? = some (Cond.methodLink RX10 271 yX1_agree) ∧ goodWord (Cond.methodLink RX10 271 yX1_agree) = true) ∧ (lw_tbl[871]? = some (Cond.instanceMethod yX1_agree) ∧ goodWord (Cond.instanceMethod yX1_agree) = true) := by decide +kernel
set_option maxRecDepth 100000 in
theorem gi_X1_toldSums : Cond.initialized yX1_toldSums.cls ∈ gtbl := g_at 83 gwb_62.1
set_option maxRecDepth 100000 in
theorem gh_X1_toldSums : yX1_toldSums.cls ≠ "java/lang/invoke/MethodHandle" ∧ yX1_toldSums.cls ≠ "java/lang/invoke/VarHandle" := ⟨by decide +kernel, by decide +kernel⟩
set_option maxRecDepth 100000 in
theorem gl_RX10_267 : Cond.methodLink RX10 267 yX1_failing ∈ gtbl := g_at 857 gwb_62.2.1
set_option maxRecDepth 100000 in
theorem gn_X1_failing : Cond.instanceMethod yX1_failing ∈ gtbl := g_at 858 gwb_62.2.2.1
set_option maxRecDepth 100000 in
theorem gs_X1_failing : Cond.selects (fR 1) yX1_failing yX1_failing ∈ gtbl := g_at 859 gwb_62.2.2.2.1
set_option maxRecDepth 100000 in
theorem gp1_X1_failing : (parseMethodDescriptor yX1_failing.desc).map (fun d => d.parameters.length + 1) = some 3 := by decide +kernel
set_option maxRecDepth 100000 in
theorem gc_X1_failing : Cond.code yX1_failing cX1_failing 5 (some .int) ∈ gtbl := g_at 860 gwb_62.2.2.2.2.1
set_option maxRecDepth 100000 in
theorem gi_X1_failing : Cond.initialized yX1_failing.cls ∈ gtbl := g_at 83 gwb_62.2.2.2.2.2.1
set_option maxRecDepth 100000 in
theorem gh_X1_failing : yX1_failing.cls ≠ "java/lang/invoke/MethodHandle" ∧ yX1_failing.cls ≠ "java/lang/invoke/VarHandle" := ⟨by decide +kernel, by decide +kernel⟩
set_option maxRecDepth 100000 in
theorem gl_RX10_271 : Cond.methodLink RX10 271 yX1_agree ∈ gtbl := g_at 870 gwb_62.2.2.2.2.2.2.1
set_option maxRecDepth 100000 in
theorem gn_X1_agree : Cond.instanceMethod yX1_agree ∈ gtbl := g_at 871 gwb_62.2.2.2.2.2.2.2
set_option maxRecDepth 100000 in
theorem gwb_63 : (lw_tbl[872]? = some (Cond.selects (fR 1) yX1_agree yX1_agree) ∧ goodWord (Cond.selects (fR 1) yX1_agree yX1_agree) = true) ∧ (lw_tbl[873]? = some (Cond.code yX1_agree cX1_agree 4 (some .boolean)) ∧ goodWord (Cond.code yX1_agree cX1_agree 4 (some .boolean)) = true) ∧ (lw_tbl[83]? = some (Cond.initialized yX1_agree.cls) ∧ goodWord (Cond.initialized yX1_agree.cls) = true) ∧ (lw_tbl[874]? = some (Cond.methodLink RX10 275 yX1_fewestCells) ∧ goodWord (Cond.methodLink RX10 275 yX1_fewestCells) = true) ∧ (lw_tbl[875]? = some (Cond.instanceMethod yX1_fewestCells) ∧ goodWord (Cond.instanceMethod yX1_fewestCells) = true) ∧ (lw_tbl[876]? = some (Cond.selects (fR 1) yX1_fewestCells yX1_fewestCells) ∧ goodWord (Cond.selects (fR 1) yX1_fewestCells yX1_fewestCells) = true) ∧ (lw_tbl[877]? = some (Cond.code yX1_fewestCells cX1_fewestCells 6 (some .int)) ∧ goodWord (Cond.code yX1_fewestCells cX1_fewestCells 6 (some .int)) = true) ∧ (lw_tbl[83]? = some (Cond.initialized yX1_fewestCells.cls) ∧ goodWord (Cond.initialized yX1_fewestCells.cls) = true) := by decide +kernel
set_option maxRecDepth 100000 in
theorem gs_X1_agree : Cond.selects (fR 1) yX1_agree yX1_agree ∈ gtbl := g_at 872 gwb_63.1
set_option maxRecDepth 100000 in
theorem gp1_X1_agree : (parseMethodDescriptor yX1_agree.desc).map (fun d => d.parameters.length + 1) = some 1 := by decide +kernel
set_option maxRecDepth 100000 in
theorem gc_X1_agree : Cond.code yX1_agree cX1_agree 4 (some .boolean) ∈ gtbl := g_at 873 gwb_63.2.1
set_option maxRecDepth 100000 in
theorem gi_X1_agree : Cond.initialized yX1_agree.cls ∈ gtbl := g_at 83 gwb_63.2.2.1
set_option maxRecDepth 100000 in
theorem gh_X1_agree : yX1_agree.cls ≠ "java/lang/invoke/MethodHandle" ∧ yX1_agree.cls ≠ "java/lang/invoke/VarHandle" := ⟨by decide +kernel, by decide +kernel⟩
set_option maxRecDepth 100000 in
theorem gl_RX10_275 : Cond.methodLink RX10 275 yX1_fewestCells ∈ gtbl := g_at 874 gwb_63.2.2.2.1
set_option maxRecDepth 100000 in
theorem gn_X1_fewestCells : Cond.instanceMethod yX1_fewestCells ∈ gtbl := g_at 875 gwb_63.2.2.2.2.1
set_option maxRecDepth 100000 in
theorem gs_X1_fewestCells : Cond.selects (fR 1) yX1_fewestCells yX1_fewestCells ∈ gtbl := g_at 876 gwb_63.2.2.2.2.2.1
set_option maxRecDepth 100000 in
theorem gp1_X1_fewestCells : (parseMethodDescriptor yX1_fewestCells.desc).map (fun d => d.parameters.length + 1) = some 3 := by decide +kernel
set_option maxRecDepth 100000 in
theorem gc_X1_fewestCells : Cond.code yX1_fewestCells cX1_fewestCells 6 (some .int) ∈ gtbl := g_at 877 gwb_63.2.2.2.2.2.2.1
set_option maxRecDepth 100000 in
theorem gi_X1_fewestCells : Cond.initialized yX1_fewestCells.cls ∈ gtbl := g_at 83 gwb_63.2.2.2.2.2.2.2
set_option maxRecDepth 100000 in
theorem gh_X1_fewestCells : yX1_fewestCells.cls ≠ "java/lang/invoke/MethodHandle" ∧ yX1_fewestCells.cls ≠ "java/lang/invoke/VarHandle" := ⟨by decide +kernel, by decide +kernel⟩
set_option maxRecDepth 100000 in
theorem gwb_64 : (lw_tbl[903]? = some (Cond.methodLink RX10 278 yX0_made) ∧ goodWord (Cond.methodLink RX10 278 yX0_made) = true) ∧ (lw_tbl[918]? = some (Cond.methodLink RX10 287 yX10_isPerson) ∧ goodWord (Cond.methodLink RX10 287 yX10_isPerson) = true) ∧ (lw_tbl[919]? = some (Cond.static yX10_isPerson) ∧ goodWord (Cond.static yX10_isPerson) = true) ∧ (lw_tbl[920]? = some (Cond.code yX10_isPerson cX10_isPerson 1 (some .boolean)) ∧ goodWord (Cond.code yX10_isPerson cX10_isPerson 1 (some .boolean)) = true) ∧ (lw_tbl[75]? = some (Cond.initialized yX10_isPerson.cls) ∧ goodWord (Cond.initialized yX10_isPerson.cls) = true) ∧ (lw_tbl[507]? = some (Cond.methodLink RX10 296 yX9_restart) ∧ goodWord (Cond.methodLink RX10 296 yX9_restart) = true) ∧ (lw_tbl[929]? = some (Cond.methodLink RX10 299 yX10_isCellOrAll) ∧ goodWord (Cond.methodLink RX10 299 yX10_isCellOrAll) = true) ∧ (lw_tbl[931]? = some (Cond.instanceMethod yX10_isCellOrAll) ∧ goodWord (Cond.instanceMethod yX10_isCellOrAll) = true) := by decide +kernel
set_option maxRecDepth 100000 in
theorem gl_RX10_278 : Cond.methodLink RX10 278 yX0_made ∈ gtbl := g_at 903 gwb_64.1
set_option maxRecDepth 100000 in
theorem gl_RX10_287 : Cond.methodLink RX10 287 yX10_isPerson ∈ gtbl := g_at 918 gwb_64.2.1
set_option maxRecDepth 100000 in
theorem gt_X10_isPerson : Cond.static yX10_isPerson ∈ gtbl := g_at 919 gwb_64.2.2.1
set_option maxRecDepth 100000 in
theorem gp0_X10_isPerson : (parseMethodDescriptor yX10_isPerson.desc).map (fun d => d.parameters.length) = some 1 := by decide +kernel
set_option maxRecDepth 100000 in
theorem gc_X10_isPerson : Cond.code yX10_isPerson cX10_isPerson 1 (some .boolean) ∈ gtbl := g_at 920 gwb_64.2.2.2.1
set_option maxRecDepth 100000 in
theorem gi_X10_isPerson : Cond.initialized yX10_isPerson.cls ∈ gtbl := g_at 75 gwb_64.2.2.2.2.1
set_option maxRecDepth 100000 in
theorem gh_X10_isPerson : yX10_isPerson.cls ≠ "java/lang/invoke/MethodHandle" ∧ yX10_isPerson.cls ≠ "java/lang/invoke/VarHandle" := ⟨by decide +kernel, by decide +kernel⟩
set_option maxRecDepth 100000 in
theorem gl_RX10_296 : Cond.methodLink RX10 296 yX9_restart ∈ gtbl := g_at 507 gwb_64.2.2.2.2.2.1
set_option maxRecDepth 100000 in
theorem gl_RX10_299 : Cond.methodLink RX10 299 yX10_isCellOrAll ∈ gtbl := g_at 929 gwb_64.2.2.2.2.2.2.1
set_option maxRecDepth 100000 in
theorem gn_X10_isCellOrAll : Cond.instanceMethod yX10_isCellOrAll ∈ gtbl := g_at 931 gwb_64.2.2.2.2.2.2.2
set_option maxRecDepth 100000 in
theorem gwb_65 : (lw_tbl[33]? = some (Cond.selects (fR 10) yX10_isCellOrAll yX10_isCellOrAll) ∧ goodWord (Cond.selects (fR 10) yX10_isCellOrAll yX10_isCellOrAll) = true) ∧ (lw_tbl[932]? = some (Cond.code yX10_isCellOrAll cX10_isCellOrAll 2 (some .boolean)) ∧ goodWord (Cond.code yX10_isCellOrAll cX10_isCellOrAll 2 (some .boolean)) = true) ∧ (lw_tbl[75]? = some (Cond.initialized yX10_isCellOrAll.cls) ∧ goodWord (Cond.initialized yX10_isCellOrAll.cls) = true) ∧ (lw_tbl[933]? = some (Cond.methodLink RX10 302 yX9_reach) ∧ goodWord (Cond.methodLink RX10 302 yX9_reach) = true) ∧ (lw_tbl[955]? = some (Cond.methodLink RX10 305 yX9_lastMinute) ∧ goodWord (Cond.methodLink RX10 305 yX9_lastMinute) = true) ∧ (lw_tbl[959]? = some (Cond.methodLink RX10 309 yX9_ended) ∧ goodWord (Cond.methodLink RX10 309 yX9_ended) = true) ∧ (lw_tbl[968]? = some (Cond.methodLink RX10 313 yX8_find) ∧ goodWord (Cond.methodLink RX10 313 yX8_find) = true) ∧ (lw_tbl[969]? = some (Cond.instanceMethod yX8_find) ∧ goodWord (Cond.instanceMethod yX8_find) = true) := by decide +kernel
set_option maxRecDepth 100000 in
theorem gs_X10_isCellOrAll : Cond.selects (fR 10) yX10_isCellOrAll yX10_isCellOrAll ∈ gtbl := g_at 33 gwb_65.1
set_option maxRecDepth 100000 in
theorem gp1_X10_isCellOrAll : (parseMethodDescriptor yX10_isCellOrAll.desc).map (fun d => d.parameters.length + 1) = some 2 := by decide +kernel
set_option maxRecDepth 100000 in
theorem gc_X10_isCellOrAll : Cond.code yX10_isCellOrAll cX10_isCellOrAll 2 (some .boolean) ∈ gtbl := g_at 932 gwb_65.2.1
set_option maxRecDepth 100000 in
theorem gi_X10_isCellOrAll : Cond.initialized yX10_isCellOrAll.cls ∈ gtbl := g_at 75 gwb_65.2.2.1
set_option maxRecDepth 100000 in
theorem gh_X10_isCellOrAll : yX10_isCellOrAll.cls ≠ "java/lang/invoke/MethodHandle" ∧ yX10_isCellOrAll.cls ≠ "java/lang/invoke/VarHandle" := ⟨by decide +kernel, by decide +kernel⟩
set_option maxRecDepth 100000 in
theorem gl_RX10_302 : Cond.methodLink RX10 302 yX9_reach ∈ gtbl := g_at 933 gwb_65.2.2.2.1
set_option maxRecDepth 100000 in
theorem gl_RX10_305 : Cond.methodLink RX10 305 yX9_lastMinute ∈ gtbl := g_at 955 gwb_65.2.2.2.2.1
set_option maxRecDepth 100000 in
theorem gl_RX10_309 : Cond.methodLink RX10 309 yX9_ended ∈ gtbl := g_at 959 gwb_65.2.2.2.2.2.1
set_option maxRecDepth 100000 in
theorem gl_RX10_313 : Cond.methodLink RX10 313 yX8_find ∈ gtbl := g_at 968 gwb_65.2.2.2.2.2.2.1
set_option maxRecDepth 100000 in
theorem gn_X8_find : Cond.instanceMethod yX8_find ∈ gtbl := g_at 969 gwb_65.2.2.2.2.2.2.2
set_option maxRecDepth 100000 in
theorem gwb_66 : (lw_tbl[970]? = some (Cond.selects (fR 8) yX8_find yX8_find) ∧ goodWord (Cond.selects (fR 8) yX8_find yX8_find) = true) ∧ (lw_tbl[971]? = some (Cond.code yX8_find cX8_find 7 none) ∧ goodWord (Cond.code yX8_find cX8_find 7 none) = true) ∧ (lw_tbl[86]? = some (Cond.initialized yX8_find.cls) ∧ goodWord (Cond.initialized yX8_find.cls) = true) ∧ (lw_tbl[1006]? = some (Cond.methodLink RX10 323 yX10_reckonSmall) ∧ goodWord (Cond.methodLink RX10 323 yX10_reckonSmall) = true) ∧ (lw_tbl[1008]? = some (Cond.instanceMethod yX10_reckonSmall) ∧ goodWord (Cond.instanceMethod yX10_reckonSmall) = true) ∧ (lw_tbl[39]? = some (Cond.selects (fR 10) yX10_reckonSmall yX10_reckonSmall) ∧ goodWord (Cond.selects (fR 10) yX10_reckonSmall yX10_reckonSmall) = true) ∧ (lw_tbl[1009]? = some (Cond.code yX10_reckonSmall cX10_reckonSmall 4 none) ∧ goodWord (Cond.code yX10_reckonSmall cX10_reckonSmall 4 none) = true) ∧ (lw_tbl[75]? = some (Cond.initialized yX10_reckonSmall.cls) ∧ goodWord (Cond.initialized yX10_reckonSmall.cls) = true) := by decide +kernel
set_option maxRecDepth 100000 in
theorem gs_X8_find : Cond.selects (fR 8) yX8_find yX8_find ∈ gtbl := g_at 970 gwb_66.1
set_option maxRecDepth 100000 in
theorem gp1_X8_find : (parseMethodDescriptor yX8_find.desc).map (fun d => d.parameters.length + 1) = some 5 := by decide +kernel
set_option maxRecDepth 100000 in
theorem gc_X8_find : Cond.code yX8_find cX8_find 7 none ∈ gtbl := g_at 971 gwb_66.2.1
set_option maxRecDepth 100000 in
theorem gi_X8_find : Cond.initialized yX8_find.cls ∈ gtbl := g_at 86 gwb_66.2.2.1
set_option maxRecDepth 100000 in
theorem gh_X8_find : yX8_find.cls ≠ "java/lang/invoke/MethodHandle" ∧ yX8_find.cls ≠ "java/lang/invoke/VarHandle" := ⟨by decide +kernel, by decide +kernel⟩
set_option maxRecDepth 100000 in
theorem gl_RX10_323 : Cond.methodLink RX10 323 yX10_reckonSmall ∈ gtbl := g_at 1006 gwb_66.2.2.2.1
set_option maxRecDepth 100000 in
theorem gn_X10_reckonSmall : Cond.instanceMethod yX10_reckonSmall ∈ gtbl := g_at 1008 gwb_66.2.2.2.2.1
set_option maxRecDepth 100000 in
theorem gs_X10_reckonSmall : Cond.selects (fR 10) yX10_reckonSmall yX10_reckonSmall ∈ gtbl := g_at 39 gwb_66.2.2.2.2.2.1
set_option maxRecDepth 100000 in
theorem gp1_X10_reckonSmall : (parseMethodDescriptor yX10_reckonSmall.desc).map (fun d => d.parameters.length + 1) = some 2 := by decide +kernel
set_option maxRecDepth 100000 in
theorem gc_X10_reckonSmall : Cond.code yX10_reckonSmall cX10_reckonSmall 4 none ∈ gtbl := g_at 1009 gwb_66.2.2.2.2.2.2.1
set_option maxRecDepth 100000 in
theorem gi_X10_reckonSmall : Cond.initialized yX10_reckonSmall.cls ∈ gtbl := g_at 75 gwb_66.2.2.2.2.2.2.2
set_option maxRecDepth 100000 in
theorem gh_X10_reckonSmall : yX10_reckonSmall.cls ≠ "java/lang/invoke/MethodHandle" ∧ yX10_reckonSmall.cls ≠ "java/lang/invoke/VarHandle" := ⟨by decide +kernel, by decide +kernel⟩
set_option maxRecDepth 100000 in
theorem gwb_67 : (lw_tbl[1018]? = some (Cond.methodLink RX10 326 yX10_isOff) ∧ goodWord (Cond.methodLink RX10 326 yX10_isOff) = true) ∧ (lw_tbl[1020]? = some (Cond.instanceMethod yX10_isOff) ∧ goodWord (Cond.instanceMethod yX10_isOff) = true) ∧ (lw_tbl[41]? = some (Cond.selects (fR 10) yX10_isOff yX10_isOff) ∧ goodWord (Cond.selects (fR 10) yX10_isOff yX10_isOff) = true) ∧ (lw_tbl[1021]? = some (Cond.code yX10_isOff cX10_isOff 7 (some .boolean)) ∧ goodWord (Cond.code yX10_isOff cX10_isOff 7 (some .boolean)) = true) ∧ (lw_tbl[75]? = some (Cond.initialized yX10_isOff.cls) ∧ goodWord (Cond.initialized yX10_isOff.cls) = true) ∧ (lw_tbl[1027]? = some (Cond.methodLink RX10 330 yX7_copyFrom) ∧ goodWord (Cond.methodLink RX10 330 yX7_copyFrom) = true) ∧ (lw_tbl[1028]? = some (Cond.instanceMethod yX7_copyFrom) ∧ goodWord (Cond.instanceMethod yX7_copyFrom) = true) ∧ (lw_tbl[1029]? = some (Cond.selects (fR 7) yX7_copyFrom yX7_copyFrom) ∧ goodWord (Cond.selects (fR 7) yX7_copyFrom yX7_copyFrom) = true) := by decide +kernel
set_option maxRecDepth 100000 in
theorem gl_RX10_326 : Cond.methodLink RX10 326 yX10_isOff ∈ gtbl := g_at 1018 gwb_67.1
set_option maxRecDepth 100000 in
theorem gn_X10_isOff : Cond.instanceMethod yX10_isOff ∈ gtbl := g_at 1020 gwb_67.2.1
set_option maxRecDepth 100000 in
theorem gs_X10_isOff : Cond.selects (fR 10) yX10_isOff yX10_isOff ∈ gtbl := g_at 41 gwb_67.2.2.1
set_option maxRecDepth 100000 in
theorem gp1_X10_isOff : (parseMethodDescriptor yX10_isOff.desc).map (fun d => d.parameters.length + 1) = some 5 := by decide +kernel
set_option maxRecDepth 100000 in
theorem gc_X10_isOff : Cond.code yX10_isOff cX10_isOff 7 (some .boolean) ∈ gtbl := g_at 1021 gwb_67.2.2.2.1
set_option maxRecDepth 100000 in
theorem gi_X10_isOff : Cond.initialized yX10_isOff.cls ∈ gtbl := g_at 75 gwb_67.2.2.2.2.1
set_option maxRecDepth 100000 in
theorem gh_X10_isOff : yX10_isOff.cls ≠ "java/lang/invoke/MethodHandle" ∧ yX10_isOff.cls ≠ "java/lang/invoke/VarHandle" := ⟨by decide +kernel, by decide +kernel⟩
set_option maxRecDepth 100000 in
theorem gl_RX10_330 : Cond.methodLink RX10 330 yX7_copyFrom ∈ gtbl := g_at 1027 gwb_67.2.2.2.2.2.1
set_option maxRecDepth 100000 in
theorem gn_X7_copyFrom : Cond.instanceMethod yX7_copyFrom ∈ gtbl := g_at 1028 gwb_67.2.2.2.2.2.2.1
set_option maxRecDepth 100000 in
theorem gs_X7_copyFrom : Cond.selects (fR 7) yX7_copyFrom yX7_copyFrom ∈ gtbl := g_at 1029 gwb_67.2.2.2.2.2.2.2
set_option maxRecDepth 100000 in
theorem gp1_X7_copyFrom : (parseMethodDescriptor yX7_copyFrom.desc).map (fun d => d.parameters.length + 1) = some 2 := by decide +kernel
set_option maxRecDepth 100000 in
theorem gwb_68 : (lw_tbl[1030]? = some (Cond.code yX7_copyFrom cX7_copyFrom 3 none) ∧ goodWord (Cond.code yX7_copyFrom cX7_copyFrom 3 none) = true) ∧ (lw_tbl[80]? = some (Cond.initialized yX7_copyFrom.cls) ∧ goodWord (Cond.initialized yX7_copyFrom.cls) = true) ∧ (lw_tbl[1040]? = some (Cond.methodLink RX10 334 yX7_gaps) ∧ goodWord (Cond.methodLink RX10 334 yX7_gaps) = true) ∧ (lw_tbl[1041]? = some (Cond.instanceMethod yX7_gaps) ∧ goodWord (Cond.instanceMethod yX7_gaps) = true) ∧ (lw_tbl[1042]? = some (Cond.selects (fR 7) yX7_gaps yX7_gaps) ∧ goodWord (Cond.selects (fR 7) yX7_gaps yX7_gaps) = true) ∧ (lw_tbl[1043]? = some (Cond.code yX7_gaps cX7_gaps 4 (some .int)) ∧ goodWord (Cond.code yX7_gaps cX7_gaps 4 (some .int)) = true) ∧ (lw_tbl[80]? = some (Cond.initialized yX7_gaps.cls) ∧ goodWord (Cond.initialized yX7_gaps.cls) = true) ∧ (lw_tbl[491]? = some (Cond.methodLink RX10 338 yX0_restart) ∧ goodWord (Cond.methodLink RX10 338 yX0_restart) = true) := by decide +kernel
set_option maxRecDepth 100000 in
theorem gc_X7_copyFrom : Cond.code yX7_copyFrom cX7_copyFrom 3 none ∈ gtbl := g_at 1030 gwb_68.1
set_option maxRecDepth 100000 in
theorem gi_X7_copyFrom : Cond.initialized yX7_copyFrom.cls ∈ gtbl := g_at 80 gwb_68.2.1
set_option maxRecDepth 100000 in
theorem gh_X7_copyFrom : yX7_copyFrom.cls ≠ "java/lang/invoke/MethodHandle" ∧ yX7_copyFrom.cls ≠ "java/lang/invoke/VarHandle" := ⟨by decide +kernel, by decide +kernel⟩
set_option maxRecDepth 100000 in
theorem gl_RX10_334 : Cond.methodLink RX10 334 yX7_gaps ∈ gtbl := g_at 1040 gwb_68.2.2.1
set_option maxRecDepth 100000 in
theorem gn_X7_gaps : Cond.instanceMethod yX7_gaps ∈ gtbl := g_at 1041 gwb_68.2.2.2.1
set_option maxRecDepth 100000 in
theorem gs_X7_gaps : Cond.selects (fR 7) yX7_gaps yX7_gaps ∈ gtbl := g_at 1042 gwb_68.2.2.2.2.1
set_option maxRecDepth 100000 in
theorem gp1_X7_gaps : (parseMethodDescriptor yX7_gaps.desc).map (fun d => d.parameters.length + 1) = some 2 := by decide +kernel
set_option maxRecDepth 100000 in
theorem gc_X7_gaps : Cond.code yX7_gaps cX7_gaps 4 (some .int) ∈ gtbl := g_at 1043 gwb_68.2.2.2.2.2.1
set_option maxRecDepth 100000 in
theorem gi_X7_gaps : Cond.initialized yX7_gaps.cls ∈ gtbl := g_at 80 gwb_68.2.2.2.2.2.2.1
set_option maxRecDepth 100000 in
theorem gh_X7_gaps : yX7_gaps.cls ≠ "java/lang/invoke/MethodHandle" ∧ yX7_gaps.cls ≠ "java/lang/invoke/VarHandle" := ⟨by decide +kernel, by decide +kernel⟩
set_option maxRecDepth 100000 in
theorem gl_RX10_338 : Cond.methodLink RX10 338 yX0_restart ∈ gtbl := g_at 491 gwb_68.2.2.2.2.2.2.2
set_option maxRecDepth 100000 in
theorem gwb_69 : (lw_tbl[492]? = some (Cond.instanceMethod yX0_restart) ∧ goodWord (Cond.instanceMethod yX0_restart) = true) ∧ (lw_tbl[493]? = some (Cond.selects (fR 0) yX0_restart yX0_restart) ∧ goodWord (Cond.selects (fR 0) yX0_restart yX0_restart) = true) ∧ (lw_tbl[494]? = some (Cond.code yX0_restart cX0_restart 1 none) ∧ goodWord (Cond.code yX0_restart cX0_restart 1 none) = true) ∧ (lw_tbl[81]? = some (Cond.initialized yX0_restart.cls) ∧ goodWord (Cond.initialized yX0_restart.cls) = true) ∧ (lw_tbl[495]? = some (Cond.methodLink RX10 339 yX4_restart) ∧ goodWord (Cond.methodLink RX10 339 yX4_restart) = true) ∧ (lw_tbl[496]? = some (Cond.instanceMethod yX4_restart) ∧ goodWord (Cond.instanceMethod yX4_restart) = true) ∧ (lw_tbl[497]? = some (Cond.selects (fR 4) yX4_restart yX4_restart) ∧ goodWord (Cond.selects (fR 4) yX4_restart yX4_restart) = true) ∧ (lw_tbl[498]? = some (Cond.code yX4_restart cX4_restart 1 none) ∧ goodWord (Cond.code yX4_restart cX4_restart 1 none) = true) := by decide +kernel
set_option maxRecDepth 100000 in
theorem gn_X0_restart : Cond.instanceMethod yX0_restart ∈ gtbl := g_at 492 gwb_69.1
set_option maxRecDepth 100000 in
theorem gs_X0_restart : Cond.selects (fR 0) yX0_restart yX0_restart ∈ gtbl := g_at 493 gwb_69.2.1
set_option maxRecDepth 100000 in
theorem gp1_X0_restart : (parseMethodDescriptor yX0_restart.desc).map (fun d => d.parameters.length + 1) = some 1 := by decide +kernel
set_option maxRecDepth 100000 in
theorem gc_X0_restart : Cond.code yX0_restart cX0_restart 1 none ∈ gtbl := g_at 494 gwb_69.2.2.1
set_option maxRecDepth 100000 in
theorem gi_X0_restart : Cond.initialized yX0_restart.cls ∈ gtbl := g_at 81 gwb_69.2.2.2.1
set_option maxRecDepth 100000 in
theorem gh_X0_restart : yX0_restart.cls ≠ "java/lang/invoke/MethodHandle" ∧ yX0_restart.cls ≠ "java/lang/invoke/VarHandle" := ⟨by decide +kernel, by decide +kernel⟩
set_option maxRecDepth 100000 in
theorem gl_RX10_339 : Cond.methodLink RX10 339 yX4_restart ∈ gtbl := g_at 495 gwb_69.2.2.2.2.1
set_option maxRecDepth 100000 in
theorem gn_X4_restart : Cond.instanceMethod yX4_restart ∈ gtbl := g_at 496 gwb_69.2.2.2.2.2.1
set_option maxRecDepth 100000 in
theorem gs_X4_restart : Cond.selects (fR 4) yX4_restart yX4_restart ∈ gtbl := g_at 497 gwb_69.2.2.2.2.2.2.1
set_option maxRecDepth 100000 in
theorem gp1_X4_restart : (parseMethodDescriptor yX4_restart.desc).map (fun d => d.parameters.length + 1) = some 1 := by decide +kernel
set_option maxRecDepth 100000 in
theorem gc_X4_restart : Cond.code yX4_restart cX4_restart 1 none ∈ gtbl := g_at 498 gwb_69.2.2.2.2.2.2.2
set_option maxRecDepth 100000 in
theorem gwb_70 : (lw_tbl[82]? = some (Cond.initialized yX4_restart.cls) ∧ goodWord (Cond.initialized yX4_restart.cls) = true) ∧ (lw_tbl[508]? = some (Cond.methodLink RX10 340 yX8_restart) ∧ goodWord (Cond.methodLink RX10 340 yX8_restart) = true) ∧ (lw_tbl[509]? = some (Cond.instanceMethod yX8_restart) ∧ goodWord (Cond.instanceMethod yX8_restart) = true) ∧ (lw_tbl[510]? = some (Cond.selects (fR 8) yX8_restart yX8_restart) ∧ goodWord (Cond.selects (fR 8) yX8_restart yX8_restart) = true) ∧ (lw_tbl[511]? = some (Cond.code yX8_restart cX8_restart 1 none) ∧ goodWord (Cond.code yX8_restart cX8_restart 1 none) = true) ∧ (lw_tbl[86]? = some (Cond.initialized yX8_restart.cls) ∧ goodWord (Cond.initialized yX8_restart.cls) = true) ∧ (lw_tbl[642]? = some (Cond.methodLink RX10 341 yX0_reach) ∧ goodWord (Cond.methodLink RX10 341 yX0_reach) = true) ∧ (lw_tbl[643]? = some (Cond.instanceMethod yX0_reach) ∧ goodWord (Cond.instanceMethod yX0_reach) = true) := by decide +kernel
set_option maxRecDepth 100000 in
theorem gi_X4_restart : Cond.initialized yX4_restart.cls ∈ gtbl := g_at 82 gwb_70.1
set_option maxRecDepth 100000 in
theorem gh_X4_restart : yX4_restart.cls ≠ "java/lang/invoke/MethodHandle" ∧ yX4_restart.cls ≠ "java/lang/invoke/VarHandle" := ⟨by decide +kernel, by decide +kernel⟩
set_option maxRecDepth 100000 in
theorem gl_RX10_340 : Cond.methodLink RX10 340 yX8_restart ∈ gtbl := g_at 508 gwb_70.2.1
set_option maxRecDepth 100000 in
theorem gn_X8_restart : Cond.instanceMethod yX8_restart ∈ gtbl := g_at 509 gwb_70.2.2.1
set_option maxRecDepth 100000 in
theorem gs_X8_restart : Cond.selects (fR 8) yX8_restart yX8_restart ∈ gtbl := g_at 510 gwb_70.2.2.2.1
set_option maxRecDepth 100000 in
theorem gp1_X8_restart : (parseMethodDescriptor yX8_restart.desc).map (fun d => d.parameters.length + 1) = some 1 := by decide +kernel
set_option maxRecDepth 100000 in
theorem gc_X8_restart : Cond.code yX8_restart cX8_restart 1 none ∈ gtbl := g_at 511 gwb_70.2.2.2.2.1
set_option maxRecDepth 100000 in
theorem gi_X8_restart : Cond.initialized yX8_restart.cls ∈ gtbl := g_at 86 gwb_70.2.2.2.2.2.1
set_option maxRecDepth 100000 in
theorem gh_X8_restart : yX8_restart.cls ≠ "java/lang/invoke/MethodHandle" ∧ yX8_restart.cls ≠ "java/lang/invoke/VarHandle" := ⟨by decide +kernel, by decide +kernel⟩
set_option maxRecDepth 100000 in
theorem gl_RX10_341 : Cond.methodLink RX10 341 yX0_reach ∈ gtbl := g_at 642 gwb_70.2.2.2.2.2.2.1
set_option maxRecDepth 100000 in
theorem gn_X0_reach : Cond.instanceMethod yX0_reach ∈ gtbl := g_at 643 gwb_70.2.2.2.2.2.2.2
set_option maxRecDepth 100000 in
theorem gwb_71 : (lw_tbl[644]? = some (Cond.selects (fR 0) yX0_reach yX0_reach) ∧ goodWord (Cond.selects (fR 0) yX0_reach yX0_reach) = true) ∧ (lw_tbl[645]? = some (Cond.code yX0_reach cX0_reach 9 none) ∧ goodWord (Cond.code yX0_reach cX0_reach 9 none) = true) ∧ (lw_tbl[81]? = some (Cond.initialized yX0_reach.cls) ∧ goodWord (Cond.initialized yX0_reach.cls) = true) ∧ (lw_tbl[1010]? = some (Cond.methodLink RX10 348 yX10_meanOfFour) ∧ goodWord (Cond.methodLink RX10 348 yX10_meanOfFour) = true) ∧ (lw_tbl[1012]? = some (Cond.instanceMethod yX10_meanOfFour) ∧ goodWord (Cond.instanceMethod yX10_meanOfFour) = true) ∧ (lw_tbl[40]? = some (Cond.selects (fR 10) yX10_meanOfFour yX10_meanOfFour) ∧ goodWord (Cond.selects (fR 10) yX10_meanOfFour yX10_meanOfFour) = true) ∧ (lw_tbl[1013]? = some (Cond.code yX10_meanOfFour cX10_meanOfFour 11 (some .int)) ∧ goodWord (Cond.code yX10_meanOfFour cX10_meanOfFour 11 (some .int)) = true) ∧ (lw_tbl[75]? = some (Cond.initialized yX10_meanOfFour.cls) ∧ goodWord (Cond.initialized yX10_meanOfFour.cls) = true) := by decide +kernel
set_option maxRecDepth 100000 in
theorem gs_X0_reach : Cond.selects (fR 0) yX0_reach yX0_reach ∈ gtbl := g_at 644 gwb_71.1
set_option maxRecDepth 100000 in
theorem gp1_X0_reach : (parseMethodDescriptor yX0_reach.desc).map (fun d => d.parameters.length + 1) = some 4 := by decide +kernel
set_option maxRecDepth 100000 in
theorem gc_X0_reach : Cond.code yX0_reach cX0_reach 9 none ∈ gtbl := g_at 645 gwb_71.2.1
set_option maxRecDepth 100000 in
theorem gi_X0_reach : Cond.initialized yX0_reach.cls ∈ gtbl := g_at 81 gwb_71.2.2.1
set_option maxRecDepth 100000 in
theorem gh_X0_reach : yX0_reach.cls ≠ "java/lang/invoke/MethodHandle" ∧ yX0_reach.cls ≠ "java/lang/invoke/VarHandle" := ⟨by decide +kernel, by decide +kernel⟩
set_option maxRecDepth 100000 in
theorem gl_RX10_348 : Cond.methodLink RX10 348 yX10_meanOfFour ∈ gtbl := g_at 1010 gwb_71.2.2.2.1
set_option maxRecDepth 100000 in
theorem gn_X10_meanOfFour : Cond.instanceMethod yX10_meanOfFour ∈ gtbl := g_at 1012 gwb_71.2.2.2.2.1
set_option maxRecDepth 100000 in
theorem gs_X10_meanOfFour : Cond.selects (fR 10) yX10_meanOfFour yX10_meanOfFour ∈ gtbl := g_at 40 gwb_71.2.2.2.2.2.1
set_option maxRecDepth 100000 in
theorem gp1_X10_meanOfFour : (parseMethodDescriptor yX10_meanOfFour.desc).map (fun d => d.parameters.length + 1) = some 4 := by decide +kernel
set_option maxRecDepth 100000 in
theorem gc_X10_meanOfFour : Cond.code yX10_meanOfFour cX10_meanOfFour 11 (some .int) ∈ gtbl := g_at 1013 gwb_71.2.2.2.2.2.2.1
set_option maxRecDepth 100000 in
theorem gi_X10_meanOfFour : Cond.initialized yX10_meanOfFour.cls ∈ gtbl := g_at 75 gwb_71.2.2.2.2.2.2.2
set_option maxRecDepth 100000 in
theorem gh_X10_meanOfFour : yX10_meanOfFour.cls ≠ "java/lang/invoke/MethodHandle" ∧ yX10_meanOfFour.cls ≠ "java/lang/invoke/VarHandle" := ⟨by decide +kernel, by decide +kernel⟩
set_option maxRecDepth 100000 in
theorem gwb_72 : (lw_tbl[1017]? = some (Cond.methodLink RX10 351 yX0_set) ∧ goodWord (Cond.methodLink RX10 351 yX0_set) = true) ∧ (lw_tbl[1016]? = some (Cond.methodLink RX10 357 yJ9_floorDiv_f86c9) ∧ goodWord (Cond.methodLink RX10 357 yJ9_floorDiv_f86c9) = true) ∧ (lw_tbl[1022]? = some (Cond.methodLink RX10 363 yJ9_abs_067f4) ∧ goodWord (Cond.methodLink RX10 363 yJ9_abs_067f4) = true) ∧ (lw_tbl[1050]? = some (Cond.methodLink RX11 112 yX11_begins) ∧ goodWord (Cond.methodLink RX11 112 yX11_begins) = true) ∧ (lw_tbl[1052]? = some (Cond.instanceMethod yX11_begins) ∧ goodWord (Cond.instanceMethod yX11_begins) = true) ∧ (lw_tbl[42]? = some (Cond.selects (fR 11) yX11_begins yX11_begins) ∧ goodWord (Cond.selects (fR 11) yX11_begins yX11_begins) = true) ∧ (lw_tbl[1053]? = some (Cond.code yX11_begins cX11_begins 2 none) ∧ goodWord (Cond.code yX11_begins cX11_begins 2 none) = true) ∧ (lw_tbl[87]? = some (Cond.initialized yX11_begins.cls) ∧ goodWord (Cond.initialized yX11_begins.cls) = true) := by decide +kernel
set_option maxRecDepth 100000 in
theorem gl_RX10_351 : Cond.methodLink RX10 351 yX0_set ∈ gtbl := g_at 1017 gwb_72.1
set_option maxRecDepth 100000 in
theorem gl_RX10_357 : Cond.methodLink RX10 357 yJ9_floorDiv_f86c9 ∈ gtbl := g_at 1016 gwb_72.2.1
set_option maxRecDepth 100000 in
theorem gl_RX10_363 : Cond.methodLink RX10 363 yJ9_abs_067f4 ∈ gtbl := g_at 1022 gwb_72.2.2.1
set_option maxRecDepth 100000 in
theorem gl_RX11_112 : Cond.methodLink RX11 112 yX11_begins ∈ gtbl := g_at 1050 gwb_72.2.2.2.1
set_option maxRecDepth 100000 in
theorem gn_X11_begins : Cond.instanceMethod yX11_begins ∈ gtbl := g_at 1052 gwb_72.2.2.2.2.1
set_option maxRecDepth 100000 in
theorem gs_X11_begins : Cond.selects (fR 11) yX11_begins yX11_begins ∈ gtbl := g_at 42 gwb_72.2.2.2.2.2.1
set_option maxRecDepth 100000 in
theorem gp1_X11_begins : (parseMethodDescriptor yX11_begins.desc).map (fun d => d.parameters.length + 1) = some 1 := by decide +kernel
set_option maxRecDepth 100000 in
theorem gc_X11_begins : Cond.code yX11_begins cX11_begins 2 none ∈ gtbl := g_at 1053 gwb_72.2.2.2.2.2.2.1
set_option maxRecDepth 100000 in
theorem gi_X11_begins : Cond.initialized yX11_begins.cls ∈ gtbl := g_at 87 gwb_72.2.2.2.2.2.2.2
set_option maxRecDepth 100000 in
theorem gh_X11_begins : yX11_begins.cls ≠ "java/lang/invoke/MethodHandle" ∧ yX11_begins.cls ≠ "java/lang/invoke/VarHandle" := ⟨by decide +kernel, by decide +kernel⟩
set_option maxRecDepth 100000 in
theorem gwb_73 : (lw_tbl[1055]? = some (Cond.methodLink RX11 119 yX11_clears) ∧ goodWord (Cond.methodLink RX11 119 yX11_clears) = true) ∧ (lw_tbl[1057]? = some (Cond.instanceMethod yX11_clears) ∧ goodWord (Cond.instanceMethod yX11_clears) = true) ∧ (lw_tbl[43]? = some (Cond.selects (fR 11) yX11_clears yX11_clears) ∧ goodWord (Cond.selects (fR 11) yX11_clears yX11_clears) = true) ∧ (lw_tbl[1058]? = some (Cond.code yX11_clears cX11_clears 2 none) ∧ goodWord (Cond.code yX11_clears cX11_clears 2 none) = true) ∧ (lw_tbl[87]? = some (Cond.initialized yX11_clears.cls) ∧ goodWord (Cond.initialized yX11_clears.cls) = true) ∧ (lw_tbl[1208]? = some (Cond.methodLink RX11 124 yX11_cells) ∧ goodWord (Cond.methodLink RX11 124 yX11_cells) = true) ∧ (lw_tbl[1210]? = some (Cond.instanceMethod yX11_cells) ∧ goodWord (Cond.instanceMethod yX11_cells) = true) ∧ (lw_tbl[44]? = some (Cond.selects (fR 11) yX11_cells yX11_cells) ∧ goodWord (Cond.selects (fR 11) yX11_cells yX11_cells) = true) := by decide +kernel
set_option maxRecDepth 100000 in
theorem gl_RX11_119 : Cond.methodLink RX11 119 yX11_clears ∈ gtbl := g_at 1055 gwb_73.1
set_option maxRecDepth 100000 in
theorem gn_X11_clears : Cond.instanceMethod yX11_clears ∈ gtbl := g_at 1057 gwb_73.2.1
set_option maxRecDepth 100000 in
theorem gs_X11_clears : Cond.selects (fR 11) yX11_clears yX11_clears ∈ gtbl := g_at 43 gwb_73.2.2.1
set_option maxRecDepth 100000 in
theorem gp1_X11_clears : (parseMethodDescriptor yX11_clears.desc).map (fun d => d.parameters.length + 1) = some 1 := by decide +kernel
set_option maxRecDepth 100000 in
theorem gc_X11_clears : Cond.code yX11_clears cX11_clears 2 none ∈ gtbl := g_at 1058 gwb_73.2.2.2.1
set_option maxRecDepth 100000 in
theorem gi_X11_clears : Cond.initialized yX11_clears.cls ∈ gtbl := g_at 87 gwb_73.2.2.2.2.1
set_option maxRecDepth 100000 in
theorem gh_X11_clears : yX11_clears.cls ≠ "java/lang/invoke/MethodHandle" ∧ yX11_clears.cls ≠ "java/lang/invoke/VarHandle" := ⟨by decide +kernel, by decide +kernel⟩
set_option maxRecDepth 100000 in
theorem gl_RX11_124 : Cond.methodLink RX11 124 yX11_cells ∈ gtbl := g_at 1208 gwb_73.2.2.2.2.2.1
set_option maxRecDepth 100000 in
theorem gn_X11_cells : Cond.instanceMethod yX11_cells ∈ gtbl := g_at 1210 gwb_73.2.2.2.2.2.2.1
set_option maxRecDepth 100000 in
theorem gs_X11_cells : Cond.selects (fR 11) yX11_cells yX11_cells ∈ gtbl := g_at 44 gwb_73.2.2.2.2.2.2.2
set_option maxRecDepth 100000 in
theorem gp1_X11_cells : (parseMethodDescriptor yX11_cells.desc).map (fun d => d.parameters.length + 1) = some 1 := by decide +kernel
set_option maxRecDepth 100000 in
theorem gwb_74 : (lw_tbl[1211]? = some (Cond.code yX11_cells cX11_cells 1 (some .int)) ∧ goodWord (Cond.code yX11_cells cX11_cells 1 (some .int)) = true) ∧ (lw_tbl[87]? = some (Cond.initialized yX11_cells.cls) ∧ goodWord (Cond.initialized yX11_cells.cls) = true) ∧ (lw_tbl[1205]? = some (Cond.methodLink RX11 128 yX11_in) ∧ goodWord (Cond.methodLink RX11 128 yX11_in) = true) ∧ (lw_tbl[1206]? = some (Cond.static yX11_in) ∧ goodWord (Cond.static yX11_in) = true) ∧ (lw_tbl[1207]? = some (Cond.code yX11_in cX11_in 6 (some .boolean)) ∧ goodWord (Cond.code yX11_in cX11_in 6 (some .boolean)) = true) ∧ (lw_tbl[87]? = some (Cond.initialized yX11_in.cls) ∧ goodWord (Cond.initialized yX11_in.cls) = true) ∧ (lw_tbl[1221]? = some (Cond.methodLink RX11 146 yX11_isLetter) ∧ goodWord (Cond.methodLink RX11 146 yX11_isLetter) = true) ∧ (lw_tbl[1222]? = some (Cond.static yX11_isLetter) ∧ goodWord (Cond.static yX11_isLetter) = true) := by decide +kernel
set_option maxRecDepth 100000 in
theorem gc_X11_cells : Cond.code yX11_cells cX11_cells 1 (some .int) ∈ gtbl := g_at 1211 gwb_74.1
set_option maxRecDepth 100000 in
theorem gi_X11_cells : Cond.initialized yX11_cells.cls ∈ gtbl := g_at 87 gwb_74.2.1
set_option maxRecDepth 100000 in
theorem gh_X11_cells : yX11_cells.cls ≠ "java/lang/invoke/MethodHandle" ∧ yX11_cells.cls ≠ "java/lang/invoke/VarHandle" := ⟨by decide +kernel, by decide +kernel⟩
set_option maxRecDepth 100000 in
theorem gl_RX11_128 : Cond.methodLink RX11 128 yX11_in ∈ gtbl := g_at 1205 gwb_74.2.2.1
set_option maxRecDepth 100000 in
theorem gt_X11_in : Cond.static yX11_in ∈ gtbl := g_at 1206 gwb_74.2.2.2.1
set_option maxRecDepth 100000 in
theorem gp0_X11_in : (parseMethodDescriptor yX11_in.desc).map (fun d => d.parameters.length) = some 3 := by decide +kernel
set_option maxRecDepth 100000 in
theorem gc_X11_in : Cond.code yX11_in cX11_in 6 (some .boolean) ∈ gtbl := g_at 1207 gwb_74.2.2.2.2.1
set_option maxRecDepth 100000 in
theorem gi_X11_in : Cond.initialized yX11_in.cls ∈ gtbl := g_at 87 gwb_74.2.2.2.2.2.1
set_option maxRecDepth 100000 in
theorem gh_X11_in : yX11_in.cls ≠ "java/lang/invoke/MethodHandle" ∧ yX11_in.cls ≠ "java/lang/invoke/VarHandle" := ⟨by decide +kernel, by decide +kernel⟩
set_option maxRecDepth 100000 in
theorem gl_RX11_146 : Cond.methodLink RX11 146 yX11_isLetter ∈ gtbl := g_at 1221 gwb_74.2.2.2.2.2.2.1
set_option maxRecDepth 100000 in
theorem gt_X11_isLetter : Cond.static yX11_isLetter ∈ gtbl := g_at 1222 gwb_74.2.2.2.2.2.2.2
set_option maxRecDepth 100000 in
theorem gp0_X11_isLetter : (parseMethodDescriptor yX11_isLetter.desc).map (fun d => d.parameters.length) = some 1 := by decide +kernel
set_option maxRecDepth 100000 in
theorem gwb_75 : (lw_tbl[1223]? = some (Cond.code yX11_isLetter cX11_isLetter 1 (some .boolean)) ∧ goodWord (Cond.code yX11_isLetter cX11_isLetter 1 (some .boolean)) = true) ∧ (lw_tbl[87]? = some (Cond.initialized yX11_isLetter.cls) ∧ goodWord (Cond.initialized yX11_isLetter.cls) = true) ∧ (lw_tbl[1250]? = some (Cond.methodLink RX11 168 yX11_byteAt) ∧ goodWord (Cond.methodLink RX11 168 yX11_byteAt) = true) ∧ (lw_tbl[1252]? = some (Cond.instanceMethod yX11_byteAt) ∧ goodWord (Cond.instanceMethod yX11_byteAt) = true) ∧ (lw_tbl[47]? = some (Cond.selects (fR 11) yX11_byteAt yX11_byteAt) ∧ goodWord (Cond.selects (fR 11) yX11_byteAt yX11_byteAt) = true) ∧ (lw_tbl[1253]? = some (Cond.code yX11_byteAt cX11_byteAt 2 (some .int)) ∧ goodWord (Cond.code yX11_byteAt cX11_byteAt 2 (some .int)) = true) ∧ (lw_tbl[87]? = some (Cond.initialized yX11_byteAt.cls) ∧ goodWord (Cond.initialized yX11_byteAt.cls) = true) ∧ (lw_tbl[1254]? = some (Cond.methodLink RX11 177 yX11_fails) ∧ goodWord (Cond.methodLink RX11 177 yX11_fails) = true) := by decide +kernel
set_option maxRecDepth 100000 in
theorem gc_X11_isLetter : Cond.code yX11_isLetter cX11_isLetter 1 (some .boolean) ∈ gtbl := g_at 1223 gwb_75.1
set_option maxRecDepth 100000 in
theorem gi_X11_isLetter : Cond.initialized yX11_isLetter.cls ∈ gtbl := g_at 87 gwb_75.2.1
set_option maxRecDepth 100000 in
theorem gh_X11_isLetter : yX11_isLetter.cls ≠ "java/lang/invoke/MethodHandle" ∧ yX11_isLetter.cls ≠ "java/lang/invoke/VarHandle" := ⟨by decide +kernel, by decide +kernel⟩
set_option maxRecDepth 100000 in
theorem gl_RX11_168 : Cond.methodLink RX11 168 yX11_byteAt ∈ gtbl := g_at 1250 gwb_75.2.2.1
set_option maxRecDepth 100000 in
theorem gn_X11_byteAt : Cond.instanceMethod yX11_byteAt ∈ gtbl := g_at 1252 gwb_75.2.2.2.1
set_option maxRecDepth 100000 in
theorem gs_X11_byteAt : Cond.selects (fR 11) yX11_byteAt yX11_byteAt ∈ gtbl := g_at 47 gwb_75.2.2.2.2.1
set_option maxRecDepth 100000 in
theorem gp1_X11_byteAt : (parseMethodDescriptor yX11_byteAt.desc).map (fun d => d.parameters.length + 1) = some 2 := by decide +kernel
set_option maxRecDepth 100000 in
theorem gc_X11_byteAt : Cond.code yX11_byteAt cX11_byteAt 2 (some .int) ∈ gtbl := g_at 1253 gwb_75.2.2.2.2.2.1
set_option maxRecDepth 100000 in
theorem gi_X11_byteAt : Cond.initialized yX11_byteAt.cls ∈ gtbl := g_at 87 gwb_75.2.2.2.2.2.2.1
set_option maxRecDepth 100000 in
theorem gh_X11_byteAt : yX11_byteAt.cls ≠ "java/lang/invoke/MethodHandle" ∧ yX11_byteAt.cls ≠ "java/lang/invoke/VarHandle" := ⟨by decide +kernel, by decide +kernel⟩
set_option maxRecDepth 100000 in
theorem gl_RX11_177 : Cond.methodLink RX11 177 yX11_fails ∈ gtbl := g_at 1254 gwb_75.2.2.2.2.2.2.2
set_option maxRecDepth 100000 in
theorem gwb_76 : (lw_tbl[1256]? = some (Cond.instanceMethod yX11_fails) ∧ goodWord (Cond.instanceMethod yX11_fails) = true) ∧ (lw_tbl[48]? = some (Cond.selects (fR 11) yX11_fails yX11_fails) ∧ goodWord (Cond.selects (fR 11) yX11_fails yX11_fails) = true) ∧ (lw_tbl[1257]? = some (Cond.code yX11_fails cX11_fails 2 none) ∧ goodWord (Cond.code yX11_fails cX11_fails 2 none) = true) ∧ (lw_tbl[87]? = some (Cond.initialized yX11_fails.cls) ∧ goodWord (Cond.initialized yX11_fails.cls) = true) ∧ (lw_tbl[1262]? = some (Cond.methodLink RX11 184 yX11_number) ∧ goodWord (Cond.methodLink RX11 184 yX11_number) = true) ∧ (lw_tbl[1264]? = some (Cond.instanceMethod yX11_number) ∧ goodWord (Cond.instanceMethod yX11_number) = true) ∧ (lw_tbl[50]? = some (Cond.selects (fR 11) yX11_number yX11_number) ∧ goodWord (Cond.selects (fR 11) yX11_number yX11_number) = true) ∧ (lw_tbl[1265]? = some (Cond.code yX11_number cX11_number 4 (some .int)) ∧ goodWord (Cond.code yX11_number cX11_number 4 (some .int)) = true) := by decide +kernel
set_option maxRecDepth 100000 in
theorem gn_X11_fails : Cond.instanceMethod yX11_fails ∈ gtbl := g_at 1256 gwb_76.1
set_option maxRecDepth 100000 in
theorem gs_X11_fails : Cond.selects (fR 11) yX11_fails yX11_fails ∈ gtbl := g_at 48 gwb_76.2.1
set_option maxRecDepth 100000 in
theorem gp1_X11_fails : (parseMethodDescriptor yX11_fails.desc).map (fun d => d.parameters.length + 1) = some 2 := by decide +kernel
set_option maxRecDepth 100000 in
theorem gc_X11_fails : Cond.code yX11_fails cX11_fails 2 none ∈ gtbl := g_at 1257 gwb_76.2.2.1
set_option maxRecDepth 100000 in
theorem gi_X11_fails : Cond.initialized yX11_fails.cls ∈ gtbl := g_at 87 gwb_76.2.2.2.1
set_option maxRecDepth 100000 in
theorem gh_X11_fails : yX11_fails.cls ≠ "java/lang/invoke/MethodHandle" ∧ yX11_fails.cls ≠ "java/lang/invoke/VarHandle" := ⟨by decide +kernel, by decide +kernel⟩
set_option maxRecDepth 100000 in
theorem gl_RX11_184 : Cond.methodLink RX11 184 yX11_number ∈ gtbl := g_at 1262 gwb_76.2.2.2.2.1
set_option maxRecDepth 100000 in
theorem gn_X11_number : Cond.instanceMethod yX11_number ∈ gtbl := g_at 1264 gwb_76.2.2.2.2.2.1
set_option maxRecDepth 100000 in
theorem gs_X11_number : Cond.selects (fR 11) yX11_number yX11_number ∈ gtbl := g_at 50 gwb_76.2.2.2.2.2.2.1
set_option maxRecDepth 100000 in
theorem gp1_X11_number : (parseMethodDescriptor yX11_number.desc).map (fun d => d.parameters.length + 1) = some 2 := by decide +kernel
set_option maxRecDepth 100000 in
theorem gc_X11_number : Cond.code yX11_number cX11_number 4 (some .int) ∈ gtbl := g_at 1265 gwb_76.2.2.2.2.2.2.2
set_option maxRecDepth 100000 in
theorem gwb_77 : (lw_tbl[87]? = some (Cond.initialized yX11_number.cls) ∧ goodWord (Cond.initialized yX11_number.cls) = true) ∧ (lw_tbl[1269]? = some (Cond.methodLink RX11 190 yX11_name) ∧ goodWord (Cond.methodLink RX11 190 yX11_name) = true) ∧ (lw_tbl[1271]? = some (Cond.instanceMethod yX11_name) ∧ goodWord (Cond.instanceMethod yX11_name) = true) ∧ (lw_tbl[51]? = some (Cond.selects (fR 11) yX11_name yX11_name) ∧ goodWord (Cond.selects (fR 11) yX11_name yX11_name) = true) ∧ (lw_tbl[1272]? = some (Cond.code yX11_name cX11_name 7 (some .int)) ∧ goodWord (Cond.code yX11_name cX11_name 7 (some .int)) = true) ∧ (lw_tbl[87]? = some (Cond.initialized yX11_name.cls) ∧ goodWord (Cond.initialized yX11_name.cls) = true) ∧ (lw_tbl[1258]? = some (Cond.methodLink RX11 193 yX11_term) ∧ goodWord (Cond.methodLink RX11 193 yX11_term) = true) ∧ (lw_tbl[1260]? = some (Cond.instanceMethod yX11_term) ∧ goodWord (Cond.instanceMethod yX11_term) = true) := by decide +kernel
set_option maxRecDepth 100000 in
theorem gi_X11_number : Cond.initialized yX11_number.cls ∈ gtbl := g_at 87 gwb_77.1
set_option maxRecDepth 100000 in
theorem gh_X11_number : yX11_number.cls ≠ "java/lang/invoke/MethodHandle" ∧ yX11_number.cls ≠ "java/lang/invoke/VarHandle" := ⟨by decide +kernel, by decide +kernel⟩
set_option maxRecDepth 100000 in
theorem gl_RX11_190 : Cond.methodLink RX11 190 yX11_name ∈ gtbl := g_at 1269 gwb_77.2.1
set_option maxRecDepth 100000 in
theorem gn_X11_name : Cond.instanceMethod yX11_name ∈ gtbl := g_at 1271 gwb_77.2.2.1
set_option maxRecDepth 100000 in
theorem gs_X11_name : Cond.selects (fR 11) yX11_name yX11_name ∈ gtbl := g_at 51 gwb_77.2.2.2.1
set_option maxRecDepth 100000 in
theorem gp1_X11_name : (parseMethodDescriptor yX11_name.desc).map (fun d => d.parameters.length + 1) = some 1 := by decide +kernel
set_option maxRecDepth 100000 in
theorem gc_X11_name : Cond.code yX11_name cX11_name 7 (some .int) ∈ gtbl := g_at 1272 gwb_77.2.2.2.2.1
set_option maxRecDepth 100000 in
theorem gi_X11_name : Cond.initialized yX11_name.cls ∈ gtbl := g_at 87 gwb_77.2.2.2.2.2.1
set_option maxRecDepth 100000 in
theorem gh_X11_name : yX11_name.cls ≠ "java/lang/invoke/MethodHandle" ∧ yX11_name.cls ≠ "java/lang/invoke/VarHandle" := ⟨by decide +kernel, by decide +kernel⟩
set_option maxRecDepth 100000 in
theorem gl_RX11_193 : Cond.methodLink RX11 193 yX11_term ∈ gtbl := g_at 1258 gwb_77.2.2.2.2.2.2.1
set_option maxRecDepth 100000 in
theorem gn_X11_term : Cond.instanceMethod yX11_term ∈ gtbl := g_at 1260 gwb_77.2.2.2.2.2.2.2
set_option maxRecDepth 100000 in
theorem gwb_78 : (lw_tbl[49]? = some (Cond.selects (fR 11) yX11_term yX11_term) ∧ goodWord (Cond.selects (fR 11) yX11_term yX11_term) = true) ∧ (lw_tbl[1261]? = some (Cond.code yX11_term cX11_term 4 none) ∧ goodWord (Cond.code yX11_term cX11_term 4 none) = true) ∧ (lw_tbl[87]? = some (Cond.initialized yX11_term.cls) ∧ goodWord (Cond.initialized yX11_term.cls) = true) ∧ (lw_tbl[1246]? = some (Cond.methodLink RX11 197 yX11_readLine) ∧ goodWord (Cond.methodLink RX11 197 yX11_readLine) = true) ∧ (lw_tbl[1248]? = some (Cond.instanceMethod yX11_readLine) ∧ goodWord (Cond.instanceMethod yX11_readLine) = true) ∧ (lw_tbl[46]? = some (Cond.selects (fR 11) yX11_readLine yX11_readLine) ∧ goodWord (Cond.selects (fR 11) yX11_readLine yX11_readLine) = true) ∧ (lw_tbl[1249]? = some (Cond.code yX11_readLine cX11_readLine 6 none) ∧ goodWord (Cond.code yX11_readLine cX11_readLine 6 none) = true) ∧ (lw_tbl[87]? = some (Cond.initialized yX11_readLine.cls) ∧ goodWord (Cond.initialized yX11_readLine.cls) = true) := by decide +kernel
set_option maxRecDepth 100000 in
theorem gs_X11_term : Cond.selects (fR 11) yX11_term yX11_term ∈ gtbl := g_at 49 gwb_78.1
set_option maxRecDepth 100000 in
theorem gp1_X11_term : (parseMethodDescriptor yX11_term.desc).map (fun d => d.parameters.length + 1) = some 2 := by decide +kernel
set_option maxRecDepth 100000 in
theorem gc_X11_term : Cond.code yX11_term cX11_term 4 none ∈ gtbl := g_at 1261 gwb_78.2.1
set_option maxRecDepth 100000 in
theorem gi_X11_term : Cond.initialized yX11_term.cls ∈ gtbl := g_at 87 gwb_78.2.2.1
set_option maxRecDepth 100000 in
theorem gh_X11_term : yX11_term.cls ≠ "java/lang/invoke/MethodHandle" ∧ yX11_term.cls ≠ "java/lang/invoke/VarHandle" := ⟨by decide +kernel, by decide +kernel⟩
set_option maxRecDepth 100000 in
theorem gl_RX11_197 : Cond.methodLink RX11 197 yX11_readLine ∈ gtbl := g_at 1246 gwb_78.2.2.2.1
set_option maxRecDepth 100000 in
theorem gn_X11_readLine : Cond.instanceMethod yX11_readLine ∈ gtbl := g_at 1248 gwb_78.2.2.2.2.1
set_option maxRecDepth 100000 in
theorem gs_X11_readLine : Cond.selects (fR 11) yX11_readLine yX11_readLine ∈ gtbl := g_at 46 gwb_78.2.2.2.2.2.1
set_option maxRecDepth 100000 in
theorem gp1_X11_readLine : (parseMethodDescriptor yX11_readLine.desc).map (fun d => d.parameters.length + 1) = some 1 := by decide +kernel
set_option maxRecDepth 100000 in
theorem gc_X11_readLine : Cond.code yX11_readLine cX11_readLine 6 none ∈ gtbl := g_at 1249 gwb_78.2.2.2.2.2.2.1
set_option maxRecDepth 100000 in
theorem gi_X11_readLine : Cond.initialized yX11_readLine.cls ∈ gtbl := g_at 87 gwb_78.2.2.2.2.2.2.2
set_option maxRecDepth 100000 in
theorem gh_X11_readLine : yX11_readLine.cls ≠ "java/lang/invoke/MethodHandle" ∧ yX11_readLine.cls ≠ "java/lang/invoke/VarHandle" := ⟨by decide +kernel, by decide +kernel⟩
set_option maxRecDepth 100000 in
theorem gwb_79 : (lw_tbl[1242]? = some (Cond.methodLink RX11 200 yX11_faultOf) ∧ goodWord (Cond.methodLink RX11 200 yX11_faultOf) = true) ∧ (lw_tbl[1244]? = some (Cond.instanceMethod yX11_faultOf) ∧ goodWord (Cond.instanceMethod yX11_faultOf) = true) ∧ (lw_tbl[45]? = some (Cond.selects (fR 11) yX11_faultOf yX11_faultOf) ∧ goodWord (Cond.selects (fR 11) yX11_faultOf yX11_faultOf) = true) ∧ (lw_tbl[1245]? = some (Cond.code yX11_faultOf cX11_faultOf 2 (some .int)) ∧ goodWord (Cond.code yX11_faultOf cX11_faultOf 2 (some .int)) = true) ∧ (lw_tbl[87]? = some (Cond.initialized yX11_faultOf.cls) ∧ goodWord (Cond.initialized yX11_faultOf.cls) = true) ∧ (lw_tbl[1282]? = some (Cond.methodLink RX11 208 yX11_hasProduct) ∧ goodWord (Cond.methodLink RX11 208 yX11_hasProduct) = true) ∧ (lw_tbl[1284]? = some (Cond.instanceMethod yX11_hasProduct) ∧ goodWord (Cond.instanceMethod yX11_hasProduct) = true) ∧ (lw_tbl[52]? = some (Cond.selects (fR 11) yX11_hasProduct yX11_hasProduct) ∧ goodWord (Cond.selects (fR 11) yX11_hasProduct yX11_hasProduct) = true) := by decide +kernel
set_option maxRecDepth 100000 in
theorem gl_RX11_200 : Cond.methodLink RX11 200 yX11_faultOf ∈ gtbl := g_at 1242 gwb_79.1
set_option maxRecDepth 100000 in
theorem gn_X11_faultOf : Cond.instanceMethod yX11_faultOf ∈ gtbl := g_at 1244 gwb_79.2.1
set_option maxRecDepth 100000 in
theorem gs_X11_faultOf : Cond.selects (fR 11) yX11_faultOf yX11_faultOf ∈ gtbl := g_at 45 gwb_79.2.2.1
set_option maxRecDepth 100000 in
theorem gp1_X11_faultOf : (parseMethodDescriptor yX11_faultOf.desc).map (fun d => d.parameters.length + 1) = some 1 := by decide +kernel
set_option maxRecDepth 100000 in
theorem gc_X11_faultOf : Cond.code yX11_faultOf cX11_faultOf 2 (some .int) ∈ gtbl := g_at 1245 gwb_79.2.2.2.1
set_option maxRecDepth 100000 in
theorem gi_X11_faultOf : Cond.initialized yX11_faultOf.cls ∈ gtbl := g_at 87 gwb_79.2.2.2.2.1
set_option maxRecDepth 100000 in
theorem gh_X11_faultOf : yX11_faultOf.cls ≠ "java/lang/invoke/MethodHandle" ∧ yX11_faultOf.cls ≠ "java/lang/invoke/VarHandle" := ⟨by decide +kernel, by decide +kernel⟩
set_option maxRecDepth 100000 in
theorem gl_RX11_208 : Cond.methodLink RX11 208 yX11_hasProduct ∈ gtbl := g_at 1282 gwb_79.2.2.2.2.2.1
set_option maxRecDepth 100000 in
theorem gn_X11_hasProduct : Cond.instanceMethod yX11_hasProduct ∈ gtbl := g_at 1284 gwb_79.2.2.2.2.2.2.1
set_option maxRecDepth 100000 in
theorem gs_X11_hasProduct : Cond.selects (fR 11) yX11_hasProduct yX11_hasProduct ∈ gtbl := g_at 52 gwb_79.2.2.2.2.2.2.2
set_option maxRecDepth 100000 in
theorem gp1_X11_hasProduct : (parseMethodDescriptor yX11_hasProduct.desc).map (fun d => d.parameters.length + 1) = some 2 := by decide +kernel
set_option maxRecDepth 100000 in
theorem gwb_80 : (lw_tbl[1285]? = some (Cond.code yX11_hasProduct cX11_hasProduct 4 (some .boolean)) ∧ goodWord (Cond.code yX11_hasProduct cX11_hasProduct 4 (some .boolean)) = true) ∧ (lw_tbl[87]? = some (Cond.initialized yX11_hasProduct.cls) ∧ goodWord (Cond.initialized yX11_hasProduct.cls) = true) ∧ (lw_tbl[1312]? = some (Cond.methodLink RX11 217 yX11_place) ∧ goodWord (Cond.methodLink RX11 217 yX11_place) = true) ∧ (lw_tbl[1313]? = some (Cond.static yX11_place) ∧ goodWord (Cond.static yX11_place) = true) ∧ (lw_tbl[1314]? = some (Cond.code yX11_place cX11_place 3 (some .int)) ∧ goodWord (Cond.code yX11_place cX11_place 3 (some .int)) = true) ∧ (lw_tbl[87]? = some (Cond.initialized yX11_place.cls) ∧ goodWord (Cond.initialized yX11_place.cls) = true) ∧ (lw_tbl[1319]? = some (Cond.methodLink RX11 221 yX11_next) ∧ goodWord (Cond.methodLink RX11 221 yX11_next) = true) ∧ (lw_tbl[1321]? = some (Cond.instanceMethod yX11_next) ∧ goodWord (Cond.instanceMethod yX11_next) = true) := by decide +kernel
set_option maxRecDepth 100000 in
theorem gc_X11_hasProduct : Cond.code yX11_hasProduct cX11_hasProduct 4 (some .boolean) ∈ gtbl := g_at 1285 gwb_80.1
set_option maxRecDepth 100000 in
theorem gi_X11_hasProduct : Cond.initialized yX11_hasProduct.cls ∈ gtbl := g_at 87 gwb_80.2.1
set_option maxRecDepth 100000 in
theorem gh_X11_hasProduct : yX11_hasProduct.cls ≠ "java/lang/invoke/MethodHandle" ∧ yX11_hasProduct.cls ≠ "java/lang/invoke/VarHandle" := ⟨by decide +kernel, by decide +kernel⟩
set_option maxRecDepth 100000 in
theorem gl_RX11_217 : Cond.methodLink RX11 217 yX11_place ∈ gtbl := g_at 1312 gwb_80.2.2.1
set_option maxRecDepth 100000 in
theorem gt_X11_place : Cond.static yX11_place ∈ gtbl := g_at 1313 gwb_80.2.2.2.1
set_option maxRecDepth 100000 in
theorem gp0_X11_place : (parseMethodDescriptor yX11_place.desc).map (fun d => d.parameters.length) = some 3 := by decide +kernel
set_option maxRecDepth 100000 in
theorem gc_X11_place : Cond.code yX11_place cX11_place 3 (some .int) ∈ gtbl := g_at 1314 gwb_80.2.2.2.2.1
set_option maxRecDepth 100000 in
theorem gi_X11_place : Cond.initialized yX11_place.cls ∈ gtbl := g_at 87 gwb_80.2.2.2.2.2.1
set_option maxRecDepth 100000 in
theorem gh_X11_place : yX11_place.cls ≠ "java/lang/invoke/MethodHandle" ∧ yX11_place.cls ≠ "java/lang/invoke/VarHandle" := ⟨by decide +kernel, by decide +kernel⟩
set_option maxRecDepth 100000 in
theorem gl_RX11_221 : Cond.methodLink RX11 221 yX11_next ∈ gtbl := g_at 1319 gwb_80.2.2.2.2.2.2.1
set_option maxRecDepth 100000 in
theorem gn_X11_next : Cond.instanceMethod yX11_next ∈ gtbl := g_at 1321 gwb_80.2.2.2.2.2.2.2
set_option maxRecDepth 100000 in
theorem gwb_81 : (lw_tbl[58]? = some (Cond.selects (fR 11) yX11_next yX11_next) ∧ goodWord (Cond.selects (fR 11) yX11_next yX11_next) = true) ∧ (lw_tbl[1322]? = some (Cond.code yX11_next cX11_next 5 (some .int)) ∧ goodWord (Cond.code yX11_next cX11_next 5 (some .int)) = true) ∧ (lw_tbl[87]? = some (Cond.initialized yX11_next.cls) ∧ goodWord (Cond.initialized yX11_next.cls) = true) ∧ (lw_tbl[1334]? = some (Cond.methodLink RX11 225 yX11_named) ∧ goodWord (Cond.methodLink RX11 225 yX11_named) = true) ∧ (lw_tbl[1336]? = some (Cond.instanceMethod yX11_named) ∧ goodWord (Cond.instanceMethod yX11_named) = true) ∧ (lw_tbl[61]? = some (Cond.selects (fR 11) yX11_named yX11_named) ∧ goodWord (Cond.selects (fR 11) yX11_named yX11_named) = true) ∧ (lw_tbl[1337]? = some (Cond.code yX11_named cX11_named 8 (some .int)) ∧ goodWord (Cond.code yX11_named cX11_named 8 (some .int)) = true) ∧ (lw_tbl[87]? = some (Cond.initialized yX11_named.cls) ∧ goodWord (Cond.initialized yX11_named.cls) = true) := by decide +kernel
set_option maxRecDepth 100000 in
theorem gs_X11_next : Cond.selects (fR 11) yX11_next yX11_next ∈ gtbl := g_at 58 gwb_81.1
set_option maxRecDepth 100000 in
theorem gp1_X11_next : (parseMethodDescriptor yX11_next.desc).map (fun d => d.parameters.length + 1) = some 3 := by decide +kernel
set_option maxRecDepth 100000 in
theorem gc_X11_next : Cond.code yX11_next cX11_next 5 (some .int) ∈ gtbl := g_at 1322 gwb_81.2.1
set_option maxRecDepth 100000 in
theorem gi_X11_next : Cond.initialized yX11_next.cls ∈ gtbl := g_at 87 gwb_81.2.2.1
set_option maxRecDepth 100000 in
theorem gh_X11_next : yX11_next.cls ≠ "java/lang/invoke/MethodHandle" ∧ yX11_next.cls ≠ "java/lang/invoke/VarHandle" := ⟨by decide +kernel, by decide +kernel⟩
set_option maxRecDepth 100000 in
theorem gl_RX11_225 : Cond.methodLink RX11 225 yX11_named ∈ gtbl := g_at 1334 gwb_81.2.2.2.1
set_option maxRecDepth 100000 in
theorem gn_X11_named : Cond.instanceMethod yX11_named ∈ gtbl := g_at 1336 gwb_81.2.2.2.2.1
set_option maxRecDepth 100000 in
theorem gs_X11_named : Cond.selects (fR 11) yX11_named yX11_named ∈ gtbl := g_at 61 gwb_81.2.2.2.2.2.1
set_option maxRecDepth 100000 in
theorem gp1_X11_named : (parseMethodDescriptor yX11_named.desc).map (fun d => d.parameters.length + 1) = some 5 := by decide +kernel
set_option maxRecDepth 100000 in
theorem gc_X11_named : Cond.code yX11_named cX11_named 8 (some .int) ∈ gtbl := g_at 1337 gwb_81.2.2.2.2.2.2.1
set_option maxRecDepth 100000 in
theorem gi_X11_named : Cond.initialized yX11_named.cls ∈ gtbl := g_at 87 gwb_81.2.2.2.2.2.2.2
set_option maxRecDepth 100000 in
theorem gh_X11_named : yX11_named.cls ≠ "java/lang/invoke/MethodHandle" ∧ yX11_named.cls ≠ "java/lang/invoke/VarHandle" := ⟨by decide +kernel, by decide +kernel⟩
set_option maxRecDepth 100000 in
theorem gwb_82 : (lw_tbl[1339]? = some (Cond.methodLink RX11 231 yX11_size) ∧ goodWord (Cond.methodLink RX11 231 yX11_size) = true) ∧ (lw_tbl[1340]? = some (Cond.static yX11_size) ∧ goodWord (Cond.static yX11_size) = true) ∧ (lw_tbl[1341]? = some (Cond.code yX11_size cX11_size 2 (some .long)) ∧ goodWord (Cond.code yX11_size cX11_size 2 (some .long)) = true) ∧ (lw_tbl[87]? = some (Cond.initialized yX11_size.cls) ∧ goodWord (Cond.initialized yX11_size.cls) = true) ∧ (lw_tbl[1344]? = some (Cond.methodLink RX11 238 yX11_downLong) ∧ goodWord (Cond.methodLink RX11 238 yX11_downLong) = true) ∧ (lw_tbl[1345]? = some (Cond.static yX11_downLong) ∧ goodWord (Cond.static yX11_downLong) = true) ∧ (lw_tbl[1346]? = some (Cond.code yX11_downLong cX11_downLong 4 (some .long)) ∧ goodWord (Cond.code yX11_downLong cX11_downLong 4 (some .long)) = true) ∧ (lw_tbl[87]? = some (Cond.initialized yX11_downLong.cls) ∧ goodWord (Cond.initialized yX11_downLong.cls) = true) := by decide +kernel
set_option maxRecDepth 100000 in
theorem gl_RX11_231 : Cond.methodLink RX11 231 yX11_size ∈ gtbl := g_at 1339 gwb_82.1
set_option maxRecDepth 100000 in
theorem gt_X11_size : Cond.static yX11_size ∈ gtbl := g_at 1340 gwb_82.2.1
set_option maxRecDepth 100000 in
theorem gp0_X11_size : (parseMethodDescriptor yX11_size.desc).map (fun d => d.parameters.length) = some 1 := by decide +kernel
set_option maxRecDepth 100000 in
theorem gc_X11_size : Cond.code yX11_size cX11_size 2 (some .long) ∈ gtbl := g_at 1341 gwb_82.2.2.1
set_option maxRecDepth 100000 in
theorem gi_X11_size : Cond.initialized yX11_size.cls ∈ gtbl := g_at 87 gwb_82.2.2.2.1
set_option maxRecDepth 100000 in
theorem gh_X11_size : yX11_size.cls ≠ "java/lang/invoke/MethodHandle" ∧ yX11_size.cls ≠ "java/lang/invoke/VarHandle" := ⟨by decide +kernel, by decide +kernel⟩
set_option maxRecDepth 100000 in
theorem gl_RX11_238 : Cond.methodLink RX11 238 yX11_downLong ∈ gtbl := g_at 1344 gwb_82.2.2.2.2.1
set_option maxRecDepth 100000 in
theorem gt_X11_downLong : Cond.static yX11_downLong ∈ gtbl := g_at 1345 gwb_82.2.2.2.2.2.1
set_option maxRecDepth 100000 in
theorem gp0_X11_downLong : (parseMethodDescriptor yX11_downLong.desc).map (fun d => d.parameters.length) = some 2 := by decide +kernel
set_option maxRecDepth 100000 in
theorem gc_X11_downLong : Cond.code yX11_downLong cX11_downLong 4 (some .long) ∈ gtbl := g_at 1346 gwb_82.2.2.2.2.2.2.1
set_option maxRecDepth 100000 in
theorem gi_X11_downLong : Cond.initialized yX11_downLong.cls ∈ gtbl := g_at 87 gwb_82.2.2.2.2.2.2.2
set_option maxRecDepth 100000 in
theorem gh_X11_downLong : yX11_downLong.cls ≠ "java/lang/invoke/MethodHandle" ∧ yX11_downLong.cls ≠ "java/lang/invoke/VarHandle" := ⟨by decide +kernel, by decide +kernel⟩
set_option maxRecDepth 100000 in
theorem gwb_83 : (lw_tbl[1356]? = some (Cond.methodLink RX11 244 yX11_namedMarked) ∧ goodWord (Cond.methodLink RX11 244 yX11_namedMarked) = true) ∧ (lw_tbl[1358]? = some (Cond.instanceMethod yX11_namedMarked) ∧ goodWord (Cond.instanceMethod yX11_namedMarked) = true) ∧ (lw_tbl[64]? = some (Cond.selects (fR 11) yX11_namedMarked yX11_namedMarked) ∧ goodWord (Cond.selects (fR 11) yX11_namedMarked yX11_namedMarked) = true) ∧ (lw_tbl[1359]? = some (Cond.code yX11_namedMarked cX11_namedMarked 7 (some .boolean)) ∧ goodWord (Cond.code yX11_namedMarked cX11_namedMarked 7 (some .boolean)) = true) ∧ (lw_tbl[87]? = some (Cond.initialized yX11_namedMarked.cls) ∧ goodWord (Cond.initialized yX11_namedMarked.cls) = true) ∧ (lw_tbl[1330]? = some (Cond.methodLink RX11 248 yX11_made) ∧ goodWord (Cond.methodLink RX11 248 yX11_made) = true) ∧ (lw_tbl[1332]? = some (Cond.instanceMethod yX11_made) ∧ goodWord (Cond.instanceMethod yX11_made) = true) ∧ (lw_tbl[60]? = some (Cond.selects (fR 11) yX11_made yX11_made) ∧ goodWord (Cond.selects (fR 11) yX11_made yX11_made) = true) := by decide +kernel
set_option maxRecDepth 100000 in
theorem gl_RX11_244 : Cond.methodLink RX11 244 yX11_namedMarked ∈ gtbl := g_at 1356 gwb_83.1
set_option maxRecDepth 100000 in
theorem gn_X11_namedMarked : Cond.instanceMethod yX11_namedMarked ∈ gtbl := g_at 1358 gwb_83.2.1
set_option maxRecDepth 100000 in
theorem gs_X11_namedMarked : Cond.selects (fR 11) yX11_namedMarked yX11_namedMarked ∈ gtbl := g_at 64 gwb_83.2.2.1
set_option maxRecDepth 100000 in
theorem gp1_X11_namedMarked : (parseMethodDescriptor yX11_namedMarked.desc).map (fun d => d.parameters.length + 1) = some 4 := by decide +kernel
set_option maxRecDepth 100000 in
theorem gc_X11_namedMarked : Cond.code yX11_namedMarked cX11_namedMarked 7 (some .boolean) ∈ gtbl := g_at 1359 gwb_83.2.2.2.1
set_option maxRecDepth 100000 in
theorem gi_X11_namedMarked : Cond.initialized yX11_namedMarked.cls ∈ gtbl := g_at 87 gwb_83.2.2.2.2.1
set_option maxRecDepth 100000 in
theorem gh_X11_namedMarked : yX11_namedMarked.cls ≠ "java/lang/invoke/MethodHandle" ∧ yX11_namedMarked.cls ≠ "java/lang/invoke/VarHandle" := ⟨by decide +kernel, by decide +kernel⟩
set_option maxRecDepth 100000 in
theorem gl_RX11_248 : Cond.methodLink RX11 248 yX11_made ∈ gtbl := g_at 1330 gwb_83.2.2.2.2.2.1
set_option maxRecDepth 100000 in
theorem gn_X11_made : Cond.instanceMethod yX11_made ∈ gtbl := g_at 1332 gwb_83.2.2.2.2.2.2.1
set_option maxRecDepth 100000 in
theorem gs_X11_made : Cond.selects (fR 11) yX11_made yX11_made ∈ gtbl := g_at 60 gwb_83.2.2.2.2.2.2.2
set_option maxRecDepth 100000 in
theorem gp1_X11_made : (parseMethodDescriptor yX11_made.desc).map (fun d => d.parameters.length + 1) = some 5 := by decide +kernel
set_option maxRecDepth 100000 in
theorem gwb_84 : (lw_tbl[1333]? = some (Cond.code yX11_made cX11_made 14 (some .int)) ∧ goodWord (Cond.code yX11_made cX11_made 14 (some .int)) = true) ∧ (lw_tbl[87]? = some (Cond.initialized yX11_made.cls) ∧ goodWord (Cond.initialized yX11_made.cls) = true) ∧ (lw_tbl[1348]? = some (Cond.methodLink RX11 251 yX11_slipped) ∧ goodWord (Cond.methodLink RX11 251 yX11_slipped) = true) ∧ (lw_tbl[1350]? = some (Cond.instanceMethod yX11_slipped) ∧ goodWord (Cond.instanceMethod yX11_slipped) = true) ∧ (lw_tbl[62]? = some (Cond.selects (fR 11) yX11_slipped yX11_slipped) ∧ goodWord (Cond.selects (fR 11) yX11_slipped yX11_slipped) = true) ∧ (lw_tbl[1351]? = some (Cond.code yX11_slipped cX11_slipped 8 (some .int)) ∧ goodWord (Cond.code yX11_slipped cX11_slipped 8 (some .int)) = true) ∧ (lw_tbl[87]? = some (Cond.initialized yX11_slipped.cls) ∧ goodWord (Cond.initialized yX11_slipped.cls) = true) ∧ (lw_tbl[1352]? = some (Cond.methodLink RX11 255 yX11_madeMarked) ∧ goodWord (Cond.methodLink RX11 255 yX11_madeMarked) = true) := by decide +kernel
set_option maxRecDepth 100000 in
theorem gc_X11_made : Cond.code yX11_made cX11_made 14 (some .int) ∈ gtbl := g_at 1333 gwb_84.1
set_option maxRecDepth 100000 in
theorem gi_X11_made : Cond.initialized yX11_made.cls ∈ gtbl := g_at 87 gwb_84.2.1
set_option maxRecDepth 100000 in
theorem gh_X11_made : yX11_made.cls ≠ "java/lang/invoke/MethodHandle" ∧ yX11_made.cls ≠ "java/lang/invoke/VarHandle" := ⟨by decide +kernel, by decide +kernel⟩
set_option maxRecDepth 100000 in
theorem gl_RX11_251 : Cond.methodLink RX11 251 yX11_slipped ∈ gtbl := g_at 1348 gwb_84.2.2.1
set_option maxRecDepth 100000 in
theorem gn_X11_slipped : Cond.instanceMethod yX11_slipped ∈ gtbl := g_at 1350 gwb_84.2.2.2.1
set_option maxRecDepth 100000 in
theorem gs_X11_slipped : Cond.selects (fR 11) yX11_slipped yX11_slipped ∈ gtbl := g_at 62 gwb_84.2.2.2.2.1
set_option maxRecDepth 100000 in
theorem gp1_X11_slipped : (parseMethodDescriptor yX11_slipped.desc).map (fun d => d.parameters.length + 1) = some 6 := by decide +kernel
set_option maxRecDepth 100000 in
theorem gc_X11_slipped : Cond.code yX11_slipped cX11_slipped 8 (some .int) ∈ gtbl := g_at 1351 gwb_84.2.2.2.2.2.1
set_option maxRecDepth 100000 in
theorem gi_X11_slipped : Cond.initialized yX11_slipped.cls ∈ gtbl := g_at 87 gwb_84.2.2.2.2.2.2.1
set_option maxRecDepth 100000 in
theorem gh_X11_slipped : yX11_slipped.cls ≠ "java/lang/invoke/MethodHandle" ∧ yX11_slipped.cls ≠ "java/lang/invoke/VarHandle" := ⟨by decide +kernel, by decide +kernel⟩
set_option maxRecDepth 100000 in
theorem gl_RX11_255 : Cond.methodLink RX11 255 yX11_madeMarked ∈ gtbl := g_at 1352 gwb_84.2.2.2.2.2.2.2
set_option maxRecDepth 100000 in
theorem gwb_85 : (lw_tbl[1354]? = some (Cond.instanceMethod yX11_madeMarked) ∧ goodWord (Cond.instanceMethod yX11_madeMarked) = true) ∧ (lw_tbl[63]? = some (Cond.selects (fR 11) yX11_madeMarked yX11_madeMarked) ∧ goodWord (Cond.selects (fR 11) yX11_madeMarked yX11_madeMarked) = true) ∧ (lw_tbl[1355]? = some (Cond.code yX11_madeMarked cX11_madeMarked 6 (some .boolean)) ∧ goodWord (Cond.code yX11_madeMarked cX11_madeMarked 6 (some .boolean)) = true) ∧ (lw_tbl[87]? = some (Cond.initialized yX11_madeMarked.cls) ∧ goodWord (Cond.initialized yX11_madeMarked.cls) = true) ∧ (lw_tbl[1323]? = some (Cond.methodLink RX11 258 yX11_down) ∧ goodWord (Cond.methodLink RX11 258 yX11_down) = true) ∧ (lw_tbl[1324]? = some (Cond.static yX11_down) ∧ goodWord (Cond.static yX11_down) = true) ∧ (lw_tbl[1325]? = some (Cond.code yX11_down cX11_down 4 (some .int)) ∧ goodWord (Cond.code yX11_down cX11_down 4 (some .int)) = true) ∧ (lw_tbl[87]? = some (Cond.initialized yX11_down.cls) ∧ goodWord (Cond.initialized yX11_down.cls) = true) := by decide +kernel
set_option maxRecDepth 100000 in
theorem gn_X11_madeMarked : Cond.instanceMethod yX11_madeMarked ∈ gtbl := g_at 1354 gwb_85.1
set_option maxRecDepth 100000 in
theorem gs_X11_madeMarked : Cond.selects (fR 11) yX11_madeMarked yX11_madeMarked ∈ gtbl := g_at 63 gwb_85.2.1
set_option maxRecDepth 100000 in
theorem gp1_X11_madeMarked : (parseMethodDescriptor yX11_madeMarked.desc).map (fun d => d.parameters.length + 1) = some 4 := by decide +kernel
set_option maxRecDepth 100000 in
theorem gc_X11_madeMarked : Cond.code yX11_madeMarked cX11_madeMarked 6 (some .boolean) ∈ gtbl := g_at 1355 gwb_85.2.2.1
set_option maxRecDepth 100000 in
theorem gi_X11_madeMarked : Cond.initialized yX11_madeMarked.cls ∈ gtbl := g_at 87 gwb_85.2.2.2.1
set_option maxRecDepth 100000 in
theorem gh_X11_madeMarked : yX11_madeMarked.cls ≠ "java/lang/invoke/MethodHandle" ∧ yX11_madeMarked.cls ≠ "java/lang/invoke/VarHandle" := ⟨by decide +kernel, by decide +kernel⟩
set_option maxRecDepth 100000 in
theorem gl_RX11_258 : Cond.methodLink RX11 258 yX11_down ∈ gtbl := g_at 1323 gwb_85.2.2.2.2.1
set_option maxRecDepth 100000 in
theorem gt_X11_down : Cond.static yX11_down ∈ gtbl := g_at 1324 gwb_85.2.2.2.2.2.1
set_option maxRecDepth 100000 in
theorem gp0_X11_down : (parseMethodDescriptor yX11_down.desc).map (fun d => d.parameters.length) = some 2 := by decide +kernel
set_option maxRecDepth 100000 in
theorem gc_X11_down : Cond.code yX11_down cX11_down 4 (some .int) ∈ gtbl := g_at 1325 gwb_85.2.2.2.2.2.2.1
set_option maxRecDepth 100000 in
theorem gi_X11_down : Cond.initialized yX11_down.cls ∈ gtbl := g_at 87 gwb_85.2.2.2.2.2.2.2
set_option maxRecDepth 100000 in
theorem gh_X11_down : yX11_down.cls ≠ "java/lang/invoke/MethodHandle" ∧ yX11_down.cls ≠ "java/lang/invoke/VarHandle" := ⟨by decide +kernel, by decide +kernel⟩
set_option maxRecDepth 100000 in
theorem gwb_86 : (lw_tbl[1315]? = some (Cond.methodLink RX11 262 yX11_filled) ∧ goodWord (Cond.methodLink RX11 262 yX11_filled) = true) ∧ (lw_tbl[1317]? = some (Cond.instanceMethod yX11_filled) ∧ goodWord (Cond.instanceMethod yX11_filled) = true) ∧ (lw_tbl[57]? = some (Cond.selects (fR 11) yX11_filled yX11_filled) ∧ goodWord (Cond.selects (fR 11) yX11_filled yX11_filled) = true) ∧ (lw_tbl[1318]? = some (Cond.code yX11_filled cX11_filled 10 (some .int)) ∧ goodWord (Cond.code yX11_filled cX11_filled 10 (some .int)) = true) ∧ (lw_tbl[87]? = some (Cond.initialized yX11_filled.cls) ∧ goodWord (Cond.initialized yX11_filled.cls) = true) ∧ (lw_tbl[1326]? = some (Cond.methodLink RX11 265 yX11_steps) ∧ goodWord (Cond.methodLink RX11 265 yX11_steps) = true) ∧ (lw_tbl[1328]? = some (Cond.instanceMethod yX11_steps) ∧ goodWord (Cond.instanceMethod yX11_steps) = true) ∧ (lw_tbl[59]? = some (Cond.selects (fR 11) yX11_steps yX11_steps) ∧ goodWord (Cond.selects (fR 11) yX11_steps yX11_steps) = true) := by decide +kernel
set_option maxRecDepth 100000 in
theorem gl_RX11_262 : Cond.methodLink RX11 262 yX11_filled ∈ gtbl := g_at 1315 gwb_86.1
set_option maxRecDepth 100000 in
theorem gn_X11_filled : Cond.instanceMethod yX11_filled ∈ gtbl := g_at 1317 gwb_86.2.1
set_option maxRecDepth 100000 in
theorem gs_X11_filled : Cond.selects (fR 11) yX11_filled yX11_filled ∈ gtbl := g_at 57 gwb_86.2.2.1
set_option maxRecDepth 100000 in
theorem gp1_X11_filled : (parseMethodDescriptor yX11_filled.desc).map (fun d => d.parameters.length + 1) = some 3 := by decide +kernel
set_option maxRecDepth 100000 in
theorem gc_X11_filled : Cond.code yX11_filled cX11_filled 10 (some .int) ∈ gtbl := g_at 1318 gwb_86.2.2.2.1
set_option maxRecDepth 100000 in
theorem gi_X11_filled : Cond.initialized yX11_filled.cls ∈ gtbl := g_at 87 gwb_86.2.2.2.2.1
set_option maxRecDepth 100000 in
theorem gh_X11_filled : yX11_filled.cls ≠ "java/lang/invoke/MethodHandle" ∧ yX11_filled.cls ≠ "java/lang/invoke/VarHandle" := ⟨by decide +kernel, by decide +kernel⟩
set_option maxRecDepth 100000 in
theorem gl_RX11_265 : Cond.methodLink RX11 265 yX11_steps ∈ gtbl := g_at 1326 gwb_86.2.2.2.2.2.1
set_option maxRecDepth 100000 in
theorem gn_X11_steps : Cond.instanceMethod yX11_steps ∈ gtbl := g_at 1328 gwb_86.2.2.2.2.2.2.1
set_option maxRecDepth 100000 in
theorem gs_X11_steps : Cond.selects (fR 11) yX11_steps yX11_steps ∈ gtbl := g_at 59 gwb_86.2.2.2.2.2.2.2
set_option maxRecDepth 100000 in
theorem gp1_X11_steps : (parseMethodDescriptor yX11_steps.desc).map (fun d => d.parameters.length + 1) = some 3 := by decide +kernel
set_option maxRecDepth 100000 in
theorem gwb_87 : (lw_tbl[1329]? = some (Cond.code yX11_steps cX11_steps 8 none) ∧ goodWord (Cond.code yX11_steps cX11_steps 8 none) = true) ∧ (lw_tbl[87]? = some (Cond.initialized yX11_steps.cls) ∧ goodWord (Cond.initialized yX11_steps.cls) = true) ∧ (lw_tbl[1290]? = some (Cond.methodLink RX11 269 yX11_isCell) ∧ goodWord (Cond.methodLink RX11 269 yX11_isCell) = true) ∧ (lw_tbl[1292]? = some (Cond.instanceMethod yX11_isCell) ∧ goodWord (Cond.instanceMethod yX11_isCell) = true) ∧ (lw_tbl[53]? = some (Cond.selects (fR 11) yX11_isCell yX11_isCell) ∧ goodWord (Cond.selects (fR 11) yX11_isCell yX11_isCell) = true) ∧ (lw_tbl[1293]? = some (Cond.code yX11_isCell cX11_isCell 2 (some .boolean)) ∧ goodWord (Cond.code yX11_isCell cX11_isCell 2 (some .boolean)) = true) ∧ (lw_tbl[87]? = some (Cond.initialized yX11_isCell.cls) ∧ goodWord (Cond.initialized yX11_isCell.cls) = true) ∧ (lw_tbl[1298]? = some (Cond.methodLink RX11 274 yX11_isPlace) ∧ goodWord (Cond.methodLink RX11 274 yX11_isPlace) = true) := by decide +kernel
set_option maxRecDepth 100000 in
theorem gc_X11_steps : Cond.code yX11_steps cX11_steps 8 none ∈ gtbl := g_at 1329 gwb_87.1
set_option maxRecDepth 100000 in
theorem gi_X11_steps : Cond.initialized yX11_steps.cls ∈ gtbl := g_at 87 gwb_87.2.1
set_option maxRecDepth 100000 in
theorem gh_X11_steps : yX11_steps.cls ≠ "java/lang/invoke/MethodHandle" ∧ yX11_steps.cls ≠ "java/lang/invoke/VarHandle" := ⟨by decide +kernel, by decide +kernel⟩
set_option maxRecDepth 100000 in
theorem gl_RX11_269 : Cond.methodLink RX11 269 yX11_isCell ∈ gtbl := g_at 1290 gwb_87.2.2.1
set_option maxRecDepth 100000 in
theorem gn_X11_isCell : Cond.instanceMethod yX11_isCell ∈ gtbl := g_at 1292 gwb_87.2.2.2.1
set_option maxRecDepth 100000 in
theorem gs_X11_isCell : Cond.selects (fR 11) yX11_isCell yX11_isCell ∈ gtbl := g_at 53 gwb_87.2.2.2.2.1
set_option maxRecDepth 100000 in
theorem gp1_X11_isCell : (parseMethodDescriptor yX11_isCell.desc).map (fun d => d.parameters.length + 1) = some 2 := by decide +kernel
set_option maxRecDepth 100000 in
theorem gc_X11_isCell : Cond.code yX11_isCell cX11_isCell 2 (some .boolean) ∈ gtbl := g_at 1293 gwb_87.2.2.2.2.2.1
set_option maxRecDepth 100000 in
theorem gi_X11_isCell : Cond.initialized yX11_isCell.cls ∈ gtbl := g_at 87 gwb_87.2.2.2.2.2.2.1
set_option maxRecDepth 100000 in
theorem gh_X11_isCell : yX11_isCell.cls ≠ "java/lang/invoke/MethodHandle" ∧ yX11_isCell.cls ≠ "java/lang/invoke/VarHandle" := ⟨by decide +kernel, by decide +kernel⟩
set_option maxRecDepth 100000 in
theorem gl_RX11_274 : Cond.methodLink RX11 274 yX11_isPlace ∈ gtbl := g_at 1298 gwb_87.2.2.2.2.2.2.2
set_option maxRecDepth 100000 in
theorem gwb_88 : (lw_tbl[1300]? = some (Cond.instanceMethod yX11_isPlace) ∧ goodWord (Cond.instanceMethod yX11_isPlace) = true) ∧ (lw_tbl[54]? = some (Cond.selects (fR 11) yX11_isPlace yX11_isPlace) ∧ goodWord (Cond.selects (fR 11) yX11_isPlace yX11_isPlace) = true) ∧ (lw_tbl[1301]? = some (Cond.code yX11_isPlace cX11_isPlace 4 (some .boolean)) ∧ goodWord (Cond.code yX11_isPlace cX11_isPlace 4 (some .boolean)) = true) ∧ (lw_tbl[87]? = some (Cond.initialized yX11_isPlace.cls) ∧ goodWord (Cond.initialized yX11_isPlace.cls) = true) ∧ (lw_tbl[1304]? = some (Cond.methodLink RX11 278 yX11_all) ∧ goodWord (Cond.methodLink RX11 278 yX11_all) = true) ∧ (lw_tbl[1306]? = some (Cond.instanceMethod yX11_all) ∧ goodWord (Cond.instanceMethod yX11_all) = true) ∧ (lw_tbl[55]? = some (Cond.selects (fR 11) yX11_all yX11_all) ∧ goodWord (Cond.selects (fR 11) yX11_all yX11_all) = true) ∧ (lw_tbl[1307]? = some (Cond.code yX11_all cX11_all 1 (some .int)) ∧ goodWord (Cond.code yX11_all cX11_all 1 (some .int)) = true) := by decide +kernel
set_option maxRecDepth 100000 in
theorem gn_X11_isPlace : Cond.instanceMethod yX11_isPlace ∈ gtbl := g_at 1300 gwb_88.1
set_option maxRecDepth 100000 in
theorem gs_X11_isPlace : Cond.selects (fR 11) yX11_isPlace yX11_isPlace ∈ gtbl := g_at 54 gwb_88.2.1
set_option maxRecDepth 100000 in
theorem gp1_X11_isPlace : (parseMethodDescriptor yX11_isPlace.desc).map (fun d => d.parameters.length + 1) = some 4 := by decide +kernel
set_option maxRecDepth 100000 in
theorem gc_X11_isPlace : Cond.code yX11_isPlace cX11_isPlace 4 (some .boolean) ∈ gtbl := g_at 1301 gwb_88.2.2.1
set_option maxRecDepth 100000 in
theorem gi_X11_isPlace : Cond.initialized yX11_isPlace.cls ∈ gtbl := g_at 87 gwb_88.2.2.2.1
set_option maxRecDepth 100000 in
theorem gh_X11_isPlace : yX11_isPlace.cls ≠ "java/lang/invoke/MethodHandle" ∧ yX11_isPlace.cls ≠ "java/lang/invoke/VarHandle" := ⟨by decide +kernel, by decide +kernel⟩
set_option maxRecDepth 100000 in
theorem gl_RX11_278 : Cond.methodLink RX11 278 yX11_all ∈ gtbl := g_at 1304 gwb_88.2.2.2.2.1
set_option maxRecDepth 100000 in
theorem gn_X11_all : Cond.instanceMethod yX11_all ∈ gtbl := g_at 1306 gwb_88.2.2.2.2.2.1
set_option maxRecDepth 100000 in
theorem gs_X11_all : Cond.selects (fR 11) yX11_all yX11_all ∈ gtbl := g_at 55 gwb_88.2.2.2.2.2.2.1
set_option maxRecDepth 100000 in
theorem gp1_X11_all : (parseMethodDescriptor yX11_all.desc).map (fun d => d.parameters.length + 1) = some 1 := by decide +kernel
set_option maxRecDepth 100000 in
theorem gc_X11_all : Cond.code yX11_all cX11_all 1 (some .int) ∈ gtbl := g_at 1307 gwb_88.2.2.2.2.2.2.2
set_option maxRecDepth 100000 in
theorem gwb_89 : (lw_tbl[87]? = some (Cond.initialized yX11_all.cls) ∧ goodWord (Cond.initialized yX11_all.cls) = true) ∧ (lw_tbl[1308]? = some (Cond.methodLink RX11 281 yX11_hall) ∧ goodWord (Cond.methodLink RX11 281 yX11_hall) = true) ∧ (lw_tbl[1310]? = some (Cond.instanceMethod yX11_hall) ∧ goodWord (Cond.instanceMethod yX11_hall) = true) ∧ (lw_tbl[56]? = some (Cond.selects (fR 11) yX11_hall yX11_hall) ∧ goodWord (Cond.selects (fR 11) yX11_hall yX11_hall) = true) ∧ (lw_tbl[1311]? = some (Cond.code yX11_hall cX11_hall 5 none) ∧ goodWord (Cond.code yX11_hall cX11_hall 5 none) = true) ∧ (lw_tbl[87]? = some (Cond.initialized yX11_hall.cls) ∧ goodWord (Cond.initialized yX11_hall.cls) = true) ∧ (lw_tbl[1399]? = some (Cond.methodLink RX11 296 yX11_tells) ∧ goodWord (Cond.methodLink RX11 296 yX11_tells) = true) ∧ (lw_tbl[1401]? = some (Cond.instanceMethod yX11_tells) ∧ goodWord (Cond.instanceMethod yX11_tells) = true) := by decide +kernel
set_option maxRecDepth 100000 in
theorem gi_X11_all : Cond.initialized yX11_all.cls ∈ gtbl := g_at 87 gwb_89.1
set_option maxRecDepth 100000 in
theorem gh_X11_all : yX11_all.cls ≠ "java/lang/invoke/MethodHandle" ∧ yX11_all.cls ≠ "java/lang/invoke/VarHandle" := ⟨by decide +kernel, by decide +kernel⟩
set_option maxRecDepth 100000 in
theorem gl_RX11_281 : Cond.methodLink RX11 281 yX11_hall ∈ gtbl := g_at 1308 gwb_89.2.1
set_option maxRecDepth 100000 in
theorem gn_X11_hall : Cond.instanceMethod yX11_hall ∈ gtbl := g_at 1310 gwb_89.2.2.1
set_option maxRecDepth 100000 in
theorem gs_X11_hall : Cond.selects (fR 11) yX11_hall yX11_hall ∈ gtbl := g_at 56 gwb_89.2.2.2.1
set_option maxRecDepth 100000 in
theorem gp1_X11_hall : (parseMethodDescriptor yX11_hall.desc).map (fun d => d.parameters.length + 1) = some 3 := by decide +kernel
set_option maxRecDepth 100000 in
theorem gc_X11_hall : Cond.code yX11_hall cX11_hall 5 none ∈ gtbl := g_at 1311 gwb_89.2.2.2.2.1
set_option maxRecDepth 100000 in
theorem gi_X11_hall : Cond.initialized yX11_hall.cls ∈ gtbl := g_at 87 gwb_89.2.2.2.2.2.1
set_option maxRecDepth 100000 in
theorem gh_X11_hall : yX11_hall.cls ≠ "java/lang/invoke/MethodHandle" ∧ yX11_hall.cls ≠ "java/lang/invoke/VarHandle" := ⟨by decide +kernel, by decide +kernel⟩
set_option maxRecDepth 100000 in
theorem gl_RX11_296 : Cond.methodLink RX11 296 yX11_tells ∈ gtbl := g_at 1399 gwb_89.2.2.2.2.2.2.1
set_option maxRecDepth 100000 in
theorem gn_X11_tells : Cond.instanceMethod yX11_tells ∈ gtbl := g_at 1401 gwb_89.2.2.2.2.2.2.2
set_option maxRecDepth 100000 in
theorem gwb_90 : (lw_tbl[65]? = some (Cond.selects (fR 11) yX11_tells yX11_tells) ∧ goodWord (Cond.selects (fR 11) yX11_tells yX11_tells) = true) ∧ (lw_tbl[1402]? = some (Cond.code yX11_tells cX11_tells 4 (some .int)) ∧ goodWord (Cond.code yX11_tells cX11_tells 4 (some .int)) = true) ∧ (lw_tbl[87]? = some (Cond.initialized yX11_tells.cls) ∧ goodWord (Cond.initialized yX11_tells.cls) = true) ∧ (lw_tbl[1407]? = some (Cond.methodLink RX11 299 yX11_isEven) ∧ goodWord (Cond.methodLink RX11 299 yX11_isEven) = true) ∧ (lw_tbl[1409]? = some (Cond.instanceMethod yX11_isEven) ∧ goodWord (Cond.instanceMethod yX11_isEven) = true) ∧ (lw_tbl[66]? = some (Cond.selects (fR 11) yX11_isEven yX11_isEven) ∧ goodWord (Cond.selects (fR 11) yX11_isEven yX11_isEven) = true) ∧ (lw_tbl[1410]? = some (Cond.code yX11_isEven cX11_isEven 7 (some .boolean)) ∧ goodWord (Cond.code yX11_isEven cX11_isEven 7 (some .boolean)) = true) ∧ (lw_tbl[87]? = some (Cond.initialized yX11_isEven.cls) ∧ goodWord (Cond.initialized yX11_isEven.cls) = true) := by decide +kernel
set_option maxRecDepth 100000 in
theorem gs_X11_tells : Cond.selects (fR 11) yX11_tells yX11_tells ∈ gtbl := g_at 65 gwb_90.1
set_option maxRecDepth 100000 in
theorem gp1_X11_tells : (parseMethodDescriptor yX11_tells.desc).map (fun d => d.parameters.length + 1) = some 1 := by decide +kernel
set_option maxRecDepth 100000 in
theorem gc_X11_tells : Cond.code yX11_tells cX11_tells 4 (some .int) ∈ gtbl := g_at 1402 gwb_90.2.1
set_option maxRecDepth 100000 in
theorem gi_X11_tells : Cond.initialized yX11_tells.cls ∈ gtbl := g_at 87 gwb_90.2.2.1
set_option maxRecDepth 100000 in
theorem gh_X11_tells : yX11_tells.cls ≠ "java/lang/invoke/MethodHandle" ∧ yX11_tells.cls ≠ "java/lang/invoke/VarHandle" := ⟨by decide +kernel, by decide +kernel⟩
set_option maxRecDepth 100000 in
theorem gl_RX11_299 : Cond.methodLink RX11 299 yX11_isEven ∈ gtbl := g_at 1407 gwb_90.2.2.2.1
set_option maxRecDepth 100000 in
theorem gn_X11_isEven : Cond.instanceMethod yX11_isEven ∈ gtbl := g_at 1409 gwb_90.2.2.2.2.1
set_option maxRecDepth 100000 in
theorem gs_X11_isEven : Cond.selects (fR 11) yX11_isEven yX11_isEven ∈ gtbl := g_at 66 gwb_90.2.2.2.2.2.1
set_option maxRecDepth 100000 in
theorem gp1_X11_isEven : (parseMethodDescriptor yX11_isEven.desc).map (fun d => d.parameters.length + 1) = some 3 := by decide +kernel
set_option maxRecDepth 100000 in
theorem gc_X11_isEven : Cond.code yX11_isEven cX11_isEven 7 (some .boolean) ∈ gtbl := g_at 1410 gwb_90.2.2.2.2.2.2.1
set_option maxRecDepth 100000 in
theorem gi_X11_isEven : Cond.initialized yX11_isEven.cls ∈ gtbl := g_at 87 gwb_90.2.2.2.2.2.2.2
set_option maxRecDepth 100000 in
theorem gh_X11_isEven : yX11_isEven.cls ≠ "java/lang/invoke/MethodHandle" ∧ yX11_isEven.cls ≠ "java/lang/invoke/VarHandle" := ⟨by decide +kernel, by decide +kernel⟩
set_option maxRecDepth 100000 in
theorem gwb_91 : (lw_tbl[1443]? = some (Cond.methodLink RX11 309 yX11_ends) ∧ goodWord (Cond.methodLink RX11 309 yX11_ends) = true) ∧ (lw_tbl[1445]? = some (Cond.instanceMethod yX11_ends) ∧ goodWord (Cond.instanceMethod yX11_ends) = true) ∧ (lw_tbl[68]? = some (Cond.selects (fR 11) yX11_ends yX11_ends) ∧ goodWord (Cond.selects (fR 11) yX11_ends yX11_ends) = true) ∧ (lw_tbl[1446]? = some (Cond.code yX11_ends cX11_ends 9 none) ∧ goodWord (Cond.code yX11_ends cX11_ends 9 none) = true) ∧ (lw_tbl[87]? = some (Cond.initialized yX11_ends.cls) ∧ goodWord (Cond.initialized yX11_ends.cls) = true) ∧ (lw_tbl[1439]? = some (Cond.methodLink RX11 314 yX11_ownEnds) ∧ goodWord (Cond.methodLink RX11 314 yX11_ownEnds) = true) ∧ (lw_tbl[1441]? = some (Cond.instanceMethod yX11_ownEnds) ∧ goodWord (Cond.instanceMethod yX11_ownEnds) = true) ∧ (lw_tbl[67]? = some (Cond.selects (fR 11) yX11_ownEnds yX11_ownEnds) ∧ goodWord (Cond.selects (fR 11) yX11_ownEnds yX11_ownEnds) = true) := by decide +kernel
set_option maxRecDepth 100000 in
theorem gl_RX11_309 : Cond.methodLink RX11 309 yX11_ends ∈ gtbl := g_at 1443 gwb_91.1
set_option maxRecDepth 100000 in
theorem gn_X11_ends : Cond.instanceMethod yX11_ends ∈ gtbl := g_at 1445 gwb_91.2.1
set_option maxRecDepth 100000 in
theorem gs_X11_ends : Cond.selects (fR 11) yX11_ends yX11_ends ∈ gtbl := g_at 68 gwb_91.2.2.1
set_option maxRecDepth 100000 in
theorem gp1_X11_ends : (parseMethodDescriptor yX11_ends.desc).map (fun d => d.parameters.length + 1) = some 2 := by decide +kernel
set_option maxRecDepth 100000 in
theorem gc_X11_ends : Cond.code yX11_ends cX11_ends 9 none ∈ gtbl := g_at 1446 gwb_91.2.2.2.1
set_option maxRecDepth 100000 in
theorem gi_X11_ends : Cond.initialized yX11_ends.cls ∈ gtbl := g_at 87 gwb_91.2.2.2.2.1
set_option maxRecDepth 100000 in
theorem gh_X11_ends : yX11_ends.cls ≠ "java/lang/invoke/MethodHandle" ∧ yX11_ends.cls ≠ "java/lang/invoke/VarHandle" := ⟨by decide +kernel, by decide +kernel⟩
set_option maxRecDepth 100000 in
theorem gl_RX11_314 : Cond.methodLink RX11 314 yX11_ownEnds ∈ gtbl := g_at 1439 gwb_91.2.2.2.2.2.1
set_option maxRecDepth 100000 in
theorem gn_X11_ownEnds : Cond.instanceMethod yX11_ownEnds ∈ gtbl := g_at 1441 gwb_91.2.2.2.2.2.2.1
set_option maxRecDepth 100000 in
theorem gs_X11_ownEnds : Cond.selects (fR 11) yX11_ownEnds yX11_ownEnds ∈ gtbl := g_at 67 gwb_91.2.2.2.2.2.2.2
set_option maxRecDepth 100000 in
theorem gp1_X11_ownEnds : (parseMethodDescriptor yX11_ownEnds.desc).map (fun d => d.parameters.length + 1) = some 1 := by decide +kernel
set_option maxRecDepth 100000 in
theorem gwb_92 : (lw_tbl[1442]? = some (Cond.code yX11_ownEnds cX11_ownEnds 2 none) ∧ goodWord (Cond.code yX11_ownEnds cX11_ownEnds 2 none) = true) ∧ (lw_tbl[87]? = some (Cond.initialized yX11_ownEnds.cls) ∧ goodWord (Cond.initialized yX11_ownEnds.cls) = true) ∧ (lw_tbl[1447]? = some (Cond.methodLink RX11 317 yX11_lastOf) ∧ goodWord (Cond.methodLink RX11 317 yX11_lastOf) = true) ∧ (lw_tbl[1449]? = some (Cond.instanceMethod yX11_lastOf) ∧ goodWord (Cond.instanceMethod yX11_lastOf) = true) ∧ (lw_tbl[69]? = some (Cond.selects (fR 11) yX11_lastOf yX11_lastOf) ∧ goodWord (Cond.selects (fR 11) yX11_lastOf yX11_lastOf) = true) ∧ (lw_tbl[1450]? = some (Cond.code yX11_lastOf cX11_lastOf 4 (some .int)) ∧ goodWord (Cond.code yX11_lastOf cX11_lastOf 4 (some .int)) = true) ∧ (lw_tbl[87]? = some (Cond.initialized yX11_lastOf.cls) ∧ goodWord (Cond.initialized yX11_lastOf.cls) = true) ∧ (lw_tbl[1459]? = some (Cond.methodLink RX11 320 yX11_gives) ∧ goodWord (Cond.methodLink RX11 320 yX11_gives) = true) := by decide +kernel
set_option maxRecDepth 100000 in
theorem gc_X11_ownEnds : Cond.code yX11_ownEnds cX11_ownEnds 2 none ∈ gtbl := g_at 1442 gwb_92.1
set_option maxRecDepth 100000 in
theorem gi_X11_ownEnds : Cond.initialized yX11_ownEnds.cls ∈ gtbl := g_at 87 gwb_92.2.1
set_option maxRecDepth 100000 in
theorem gh_X11_ownEnds : yX11_ownEnds.cls ≠ "java/lang/invoke/MethodHandle" ∧ yX11_ownEnds.cls ≠ "java/lang/invoke/VarHandle" := ⟨by decide +kernel, by decide +kernel⟩
set_option maxRecDepth 100000 in
theorem gl_RX11_317 : Cond.methodLink RX11 317 yX11_lastOf ∈ gtbl := g_at 1447 gwb_92.2.2.1
set_option maxRecDepth 100000 in
theorem gn_X11_lastOf : Cond.instanceMethod yX11_lastOf ∈ gtbl := g_at 1449 gwb_92.2.2.2.1
set_option maxRecDepth 100000 in
theorem gs_X11_lastOf : Cond.selects (fR 11) yX11_lastOf yX11_lastOf ∈ gtbl := g_at 69 gwb_92.2.2.2.2.1
set_option maxRecDepth 100000 in
theorem gp1_X11_lastOf : (parseMethodDescriptor yX11_lastOf.desc).map (fun d => d.parameters.length + 1) = some 2 := by decide +kernel
set_option maxRecDepth 100000 in
theorem gc_X11_lastOf : Cond.code yX11_lastOf cX11_lastOf 4 (some .int) ∈ gtbl := g_at 1450 gwb_92.2.2.2.2.2.1
set_option maxRecDepth 100000 in
theorem gi_X11_lastOf : Cond.initialized yX11_lastOf.cls ∈ gtbl := g_at 87 gwb_92.2.2.2.2.2.2.1
set_option maxRecDepth 100000 in
theorem gh_X11_lastOf : yX11_lastOf.cls ≠ "java/lang/invoke/MethodHandle" ∧ yX11_lastOf.cls ≠ "java/lang/invoke/VarHandle" := ⟨by decide +kernel, by decide +kernel⟩
set_option maxRecDepth 100000 in
theorem gl_RX11_320 : Cond.methodLink RX11 320 yX11_gives ∈ gtbl := g_at 1459 gwb_92.2.2.2.2.2.2.2
set_option maxRecDepth 100000 in
theorem gwb_93 : (lw_tbl[1461]? = some (Cond.instanceMethod yX11_gives) ∧ goodWord (Cond.instanceMethod yX11_gives) = true) ∧ (lw_tbl[70]? = some (Cond.selects (fR 11) yX11_gives yX11_gives) ∧ goodWord (Cond.selects (fR 11) yX11_gives yX11_gives) = true) ∧ (lw_tbl[1462]? = some (Cond.code yX11_gives cX11_gives 5 none) ∧ goodWord (Cond.code yX11_gives cX11_gives 5 none) = true) ∧ (lw_tbl[87]? = some (Cond.initialized yX11_gives.cls) ∧ goodWord (Cond.initialized yX11_gives.cls) = true) ∧ (lw_tbl[1484]? = some (Cond.methodLink RX11 326 yX11_slot) ∧ goodWord (Cond.methodLink RX11 326 yX11_slot) = true) ∧ (lw_tbl[1486]? = some (Cond.instanceMethod yX11_slot) ∧ goodWord (Cond.instanceMethod yX11_slot) = true) ∧ (lw_tbl[73]? = some (Cond.selects (fR 11) yX11_slot yX11_slot) ∧ goodWord (Cond.selects (fR 11) yX11_slot yX11_slot) = true) ∧ (lw_tbl[1487]? = some (Cond.code yX11_slot cX11_slot 8 (some .int)) ∧ goodWord (Cond.code yX11_slot cX11_slot 8 (some .int)) = true) := by decide +kernel
set_option maxRecDepth 100000 in
theorem gn_X11_gives : Cond.instanceMethod yX11_gives ∈ gtbl := g_at 1461 gwb_93.1
set_option maxRecDepth 100000 in
theorem gs_X11_gives : Cond.selects (fR 11) yX11_gives yX11_gives ∈ gtbl := g_at 70 gwb_93.2.1
set_option maxRecDepth 100000 in
theorem gp1_X11_gives : (parseMethodDescriptor yX11_gives.desc).map (fun d => d.parameters.length + 1) = some 3 := by decide +kernel
set_option maxRecDepth 100000 in
theorem gc_X11_gives : Cond.code yX11_gives cX11_gives 5 none ∈ gtbl := g_at 1462 gwb_93.2.2.1
set_option maxRecDepth 100000 in
theorem gi_X11_gives : Cond.initialized yX11_gives.cls ∈ gtbl := g_at 87 gwb_93.2.2.2.1
set_option maxRecDepth 100000 in
theorem gh_X11_gives : yX11_gives.cls ≠ "java/lang/invoke/MethodHandle" ∧ yX11_gives.cls ≠ "java/lang/invoke/VarHandle" := ⟨by decide +kernel, by decide +kernel⟩
set_option maxRecDepth 100000 in
theorem gl_RX11_326 : Cond.methodLink RX11 326 yX11_slot ∈ gtbl := g_at 1484 gwb_93.2.2.2.2.1
set_option maxRecDepth 100000 in
theorem gn_X11_slot : Cond.instanceMethod yX11_slot ∈ gtbl := g_at 1486 gwb_93.2.2.2.2.2.1
set_option maxRecDepth 100000 in
theorem gs_X11_slot : Cond.selects (fR 11) yX11_slot yX11_slot ∈ gtbl := g_at 73 gwb_93.2.2.2.2.2.2.1
set_option maxRecDepth 100000 in
theorem gp1_X11_slot : (parseMethodDescriptor yX11_slot.desc).map (fun d => d.parameters.length + 1) = some 6 := by decide +kernel
set_option maxRecDepth 100000 in
theorem gc_X11_slot : Cond.code yX11_slot cX11_slot 8 (some .int) ∈ gtbl := g_at 1487 gwb_93.2.2.2.2.2.2.2
set_option maxRecDepth 100000 in
theorem gwb_94 : (lw_tbl[87]? = some (Cond.initialized yX11_slot.cls) ∧ goodWord (Cond.initialized yX11_slot.cls) = true) ∧ (lw_tbl[1480]? = some (Cond.methodLink RX11 330 yX11_moves) ∧ goodWord (Cond.methodLink RX11 330 yX11_moves) = true) ∧ (lw_tbl[1482]? = some (Cond.instanceMethod yX11_moves) ∧ goodWord (Cond.instanceMethod yX11_moves) = true) ∧ (lw_tbl[72]? = some (Cond.selects (fR 11) yX11_moves yX11_moves) ∧ goodWord (Cond.selects (fR 11) yX11_moves yX11_moves) = true) ∧ (lw_tbl[1483]? = some (Cond.code yX11_moves cX11_moves 6 (some .int)) ∧ goodWord (Cond.code yX11_moves cX11_moves 6 (some .int)) = true) ∧ (lw_tbl[87]? = some (Cond.initialized yX11_moves.cls) ∧ goodWord (Cond.initialized yX11_moves.cls) = true) ∧ (lw_tbl[1476]? = some (Cond.methodLink RX11 334 yX11_moveAll) ∧ goodWord (Cond.methodLink RX11 334 yX11_moveAll) = true) ∧ (lw_tbl[1478]? = some (Cond.instanceMethod yX11_moveAll) ∧ goodWord (Cond.instanceMethod yX11_moveAll) = true) := by decide +kernel
set_option maxRecDepth 100000 in
theorem gi_X11_slot : Cond.initialized yX11_slot.cls ∈ gtbl := g_at 87 gwb_94.1
set_option maxRecDepth 100000 in
theorem gh_X11_slot : yX11_slot.cls ≠ "java/lang/invoke/MethodHandle" ∧ yX11_slot.cls ≠ "java/lang/invoke/VarHandle" := ⟨by decide +kernel, by decide +kernel⟩
set_option maxRecDepth 100000 in
theorem gl_RX11_330 : Cond.methodLink RX11 330 yX11_moves ∈ gtbl := g_at 1480 gwb_94.2.1
set_option maxRecDepth 100000 in
theorem gn_X11_moves : Cond.instanceMethod yX11_moves ∈ gtbl := g_at 1482 gwb_94.2.2.1
set_option maxRecDepth 100000 in
theorem gs_X11_moves : Cond.selects (fR 11) yX11_moves yX11_moves ∈ gtbl := g_at 72 gwb_94.2.2.2.1
set_option maxRecDepth 100000 in
theorem gp1_X11_moves : (parseMethodDescriptor yX11_moves.desc).map (fun d => d.parameters.length + 1) = some 5 := by decide +kernel
set_option maxRecDepth 100000 in
theorem gc_X11_moves : Cond.code yX11_moves cX11_moves 6 (some .int) ∈ gtbl := g_at 1483 gwb_94.2.2.2.2.1
set_option maxRecDepth 100000 in
theorem gi_X11_moves : Cond.initialized yX11_moves.cls ∈ gtbl := g_at 87 gwb_94.2.2.2.2.2.1
set_option maxRecDepth 100000 in
theorem gh_X11_moves : yX11_moves.cls ≠ "java/lang/invoke/MethodHandle" ∧ yX11_moves.cls ≠ "java/lang/invoke/VarHandle" := ⟨by decide +kernel, by decide +kernel⟩
set_option maxRecDepth 100000 in
theorem gl_RX11_334 : Cond.methodLink RX11 334 yX11_moveAll ∈ gtbl := g_at 1476 gwb_94.2.2.2.2.2.2.1
set_option maxRecDepth 100000 in
theorem gn_X11_moveAll : Cond.instanceMethod yX11_moveAll ∈ gtbl := g_at 1478 gwb_94.2.2.2.2.2.2.2
set_option maxRecDepth 100000 in
theorem gwb_95 : (lw_tbl[71]? = some (Cond.selects (fR 11) yX11_moveAll yX11_moveAll) ∧ goodWord (Cond.selects (fR 11) yX11_moveAll yX11_moveAll) = true) ∧ (lw_tbl[1479]? = some (Cond.code yX11_moveAll cX11_moveAll 4 none) ∧ goodWord (Cond.code yX11_moveAll cX11_moveAll 4 none) = true) ∧ (lw_tbl[87]? = some (Cond.initialized yX11_moveAll.cls) ∧ goodWord (Cond.initialized yX11_moveAll.cls) = true) := by decide +kernel
set_option maxRecDepth 100000 in
theorem gs_X11_moveAll : Cond.selects (fR 11) yX11_moveAll yX11_moveAll ∈ gtbl := g_at 71 gwb_95.1
set_option maxRecDepth 100000 in
theorem gp1_X11_moveAll : (parseMethodDescriptor yX11_moveAll.desc).map (fun d => d.parameters.length + 1) = some 3 := by decide +kernel
set_option maxRecDepth 100000 in
theorem gc_X11_moveAll : Cond.code yX11_moveAll cX11_moveAll 4 none ∈ gtbl := g_at 1479 gwb_95.2.1
set_option maxRecDepth 100000 in
theorem gi_X11_moveAll : Cond.initialized yX11_moveAll.cls ∈ gtbl := g_at 87 gwb_95.2.2
set_option maxRecDepth 100000 in
theorem gh_X11_moveAll : yX11_moveAll.cls ≠ "java/lang/invoke/MethodHandle" ∧ yX11_moveAll.cls ≠ "java/lang/invoke/VarHandle" := ⟨by decide +kernel, by decide +kernel⟩
