theorem wi_X0 : Cond.instantiable RX0 16 ∈ wT := wT_at 120 (by decide +kernel) (by decide +kernel)
theorem wi_X1 : Cond.instantiable RX1 5 ∈ wT := wT_at 74 (by decide +kernel) (by decide +kernel)
theorem wi_X2 : Cond.instantiable RX2 6 ∈ wT := wT_at 68 (by decide +kernel) (by decide +kernel)
theorem wi_X3 : Cond.instantiable RX3 5 ∈ wT := wT_at 128 (by decide +kernel) (by decide +kernel)
theorem wi_X4 : Cond.instantiable RX4 5 ∈ wT := wT_at 60 (by decide +kernel) (by decide +kernel)
theorem wi_X5 : Cond.instantiable RX5 9 ∈ wT := wT_at 636 (by decide +kernel) (by decide +kernel)
theorem wn_nsW1 : nsW1 ∈ lw_tbl := List.mem_of_getElem? (i := 404) (by decide +kernel)
theorem wn_nsW2 : nsW2 ∈ lw_tbl := List.mem_of_getElem? (i := 498) (by decide +kernel)
theorem wn_nsW3 : nsW3 ∈ lw_tbl := List.mem_of_getElem? (i := 424) (by decide +kernel)
theorem mc_X4_write : Cond.code yX4_write cX4_write 2 (some .int) ∈ wT := wT_at 235 (by decide +kernel) (by decide +kernel)
theorem md_X4_write : yX4_write.cls ≠ "java/lang/invoke/MethodHandle" ∧ yX4_write.cls ≠ "java/lang/invoke/VarHandle" ∧ (parseMethodDescriptor yX4_write.desc).map (fun d => d.parameters.length) = some 1 := ⟨by decide +kernel, by decide +kernel, by decide +kernel⟩
theorem mi_X4_write : Cond.initialized yX4_write.cls ∈ wT := wT_at 53 (by decide +kernel) (by decide +kernel)
theorem ms_X4_write : Cond.instanceMethod yX4_write ∈ wT := wT_at 233 (by decide +kernel) (by decide +kernel)
theorem mx_X4_write : Cond.selects yX4_write.cls yX4_write yX4_write ∈ wT := wT_at 234 (by decide +kernel) (by decide +kernel)
theorem lk_L_13 : LkV RL 13 yX4_write cX4_write 2 (some .int) 1 := ⟨⟨wT_at 232 (by decide +kernel) (by decide +kernel), ms_X4_write, mx_X4_write, mi_X4_write, mc_X4_write⟩, md_X4_write⟩
theorem mc_X5_write : Cond.code yX5_write cX5_write 2 (some .int) ∈ wT := wT_at 679 (by decide +kernel) (by decide +kernel)
theorem md_X5_write : yX5_write.cls ≠ "java/lang/invoke/MethodHandle" ∧ yX5_write.cls ≠ "java/lang/invoke/VarHandle" ∧ (parseMethodDescriptor yX5_write.desc).map (fun d => d.parameters.length) = some 1 := ⟨by decide +kernel, by decide +kernel, by decide +kernel⟩
theorem mi_X5_write : Cond.initialized yX5_write.cls ∈ wT := wT_at 58 (by decide +kernel) (by decide +kernel)
theorem ms_X5_write : Cond.instanceMethod yX5_write ∈ wT := wT_at 677 (by decide +kernel) (by decide +kernel)
theorem mx_X5_write : Cond.selects yX5_write.cls yX5_write yX5_write ∈ wT := wT_at 678 (by decide +kernel) (by decide +kernel)
theorem lk_L_17 : LkV RL 17 yX5_write cX5_write 2 (some .int) 1 := ⟨⟨wT_at 676 (by decide +kernel) (by decide +kernel), ms_X5_write, mx_X5_write, mi_X5_write, mc_X5_write⟩, md_X5_write⟩
theorem mc_X4_wipe : Cond.code yX4_wipe cX4_wipe 2 (some .int) ∈ wT := wT_at 247 (by decide +kernel) (by decide +kernel)
theorem md_X4_wipe : yX4_wipe.cls ≠ "java/lang/invoke/MethodHandle" ∧ yX4_wipe.cls ≠ "java/lang/invoke/VarHandle" ∧ (parseMethodDescriptor yX4_wipe.desc).map (fun d => d.parameters.length) = some 0 := ⟨by decide +kernel, by decide +kernel, by decide +kernel⟩
theorem mi_X4_wipe : Cond.initialized yX4_wipe.cls ∈ wT := wT_at 53 (by decide +kernel) (by decide +kernel)
theorem ms_X4_wipe : Cond.instanceMethod yX4_wipe ∈ wT := wT_at 245 (by decide +kernel) (by decide +kernel)
theorem mx_X4_wipe : Cond.selects yX4_wipe.cls yX4_wipe yX4_wipe ∈ wT := wT_at 246 (by decide +kernel) (by decide +kernel)
theorem lk_L_18 : LkV RL 18 yX4_wipe cX4_wipe 2 (some .int) 0 := ⟨⟨wT_at 244 (by decide +kernel) (by decide +kernel), ms_X4_wipe, mx_X4_wipe, mi_X4_wipe, mc_X4_wipe⟩, md_X4_wipe⟩
theorem mc_X5_wipe : Cond.code yX5_wipe cX5_wipe 2 (some .int) ∈ wT := wT_at 688 (by decide +kernel) (by decide +kernel)
theorem md_X5_wipe : yX5_wipe.cls ≠ "java/lang/invoke/MethodHandle" ∧ yX5_wipe.cls ≠ "java/lang/invoke/VarHandle" ∧ (parseMethodDescriptor yX5_wipe.desc).map (fun d => d.parameters.length) = some 0 := ⟨by decide +kernel, by decide +kernel, by decide +kernel⟩
theorem mi_X5_wipe : Cond.initialized yX5_wipe.cls ∈ wT := wT_at 58 (by decide +kernel) (by decide +kernel)
theorem ms_X5_wipe : Cond.instanceMethod yX5_wipe ∈ wT := wT_at 686 (by decide +kernel) (by decide +kernel)
theorem mx_X5_wipe : Cond.selects yX5_wipe.cls yX5_wipe yX5_wipe ∈ wT := wT_at 687 (by decide +kernel) (by decide +kernel)
theorem lk_L_22 : LkV RL 22 yX5_wipe cX5_wipe 2 (some .int) 0 := ⟨⟨wT_at 685 (by decide +kernel) (by decide +kernel), ms_X5_wipe, mx_X5_wipe, mi_X5_wipe, mc_X5_wipe⟩, md_X5_wipe⟩
theorem mc_X4_fault : Cond.code yX4_fault cX4_fault 1 (some .int) ∈ wT := wT_at 255 (by decide +kernel) (by decide +kernel)
theorem md_X4_fault : yX4_fault.cls ≠ "java/lang/invoke/MethodHandle" ∧ yX4_fault.cls ≠ "java/lang/invoke/VarHandle" ∧ (parseMethodDescriptor yX4_fault.desc).map (fun d => d.parameters.length) = some 0 := ⟨by decide +kernel, by decide +kernel, by decide +kernel⟩
theorem mi_X4_fault : Cond.initialized yX4_fault.cls ∈ wT := wT_at 53 (by decide +kernel) (by decide +kernel)
theorem ms_X4_fault : Cond.instanceMethod yX4_fault ∈ wT := wT_at 253 (by decide +kernel) (by decide +kernel)
theorem mx_X4_fault : Cond.selects yX4_fault.cls yX4_fault yX4_fault ∈ wT := wT_at 254 (by decide +kernel) (by decide +kernel)
theorem lk_L_23 : LkV RL 23 yX4_fault cX4_fault 1 (some .int) 0 := ⟨⟨wT_at 252 (by decide +kernel) (by decide +kernel), ms_X4_fault, mx_X4_fault, mi_X4_fault, mc_X4_fault⟩, md_X4_fault⟩
theorem lk_L_26 : LkV RL 26 yX5_fault cX5_fault 2 (some .int) 0 := ⟨⟨wT_at 689 (by decide +kernel) (by decide +kernel), ms_X5_fault, mx_X5_fault, mi_X5_fault, mc_X5_fault⟩, md_X5_fault⟩
theorem mc_X4_lay : Cond.code yX4_lay cX4_lay 1 (some .int) ∈ wT := wT_at 311 (by decide +kernel) (by decide +kernel)
theorem md_X4_lay : yX4_lay.cls ≠ "java/lang/invoke/MethodHandle" ∧ yX4_lay.cls ≠ "java/lang/invoke/VarHandle" ∧ (parseMethodDescriptor yX4_lay.desc).map (fun d => d.parameters.length) = some 0 := ⟨by decide +kernel, by decide +kernel, by decide +kernel⟩
theorem mi_X4_lay : Cond.initialized yX4_lay.cls ∈ wT := wT_at 53 (by decide +kernel) (by decide +kernel)
theorem ms_X4_lay : Cond.instanceMethod yX4_lay ∈ wT := wT_at 309 (by decide +kernel) (by decide +kernel)
theorem mx_X4_lay : Cond.selects yX4_lay.cls yX4_lay yX4_lay ∈ wT := wT_at 310 (by decide +kernel) (by decide +kernel)
theorem lk_L_27 : LkV RL 27 yX4_lay cX4_lay 1 (some .int) 0 := ⟨⟨wT_at 308 (by decide +kernel) (by decide +kernel), ms_X4_lay, mx_X4_lay, mi_X4_lay, mc_X4_lay⟩, md_X4_lay⟩
theorem mc_X5_lay : Cond.code yX5_lay cX5_lay 2 (some .int) ∈ wT := wT_at 721 (by decide +kernel) (by decide +kernel)
theorem md_X5_lay : yX5_lay.cls ≠ "java/lang/invoke/MethodHandle" ∧ yX5_lay.cls ≠ "java/lang/invoke/VarHandle" ∧ (parseMethodDescriptor yX5_lay.desc).map (fun d => d.parameters.length) = some 0 := ⟨by decide +kernel, by decide +kernel, by decide +kernel⟩
theorem mi_X5_lay : Cond.initialized yX5_lay.cls ∈ wT := wT_at 58 (by decide +kernel) (by decide +kernel)
theorem ms_X5_lay : Cond.instanceMethod yX5_lay ∈ wT := wT_at 719 (by decide +kernel) (by decide +kernel)
theorem mx_X5_lay : Cond.selects yX5_lay.cls yX5_lay yX5_lay ∈ wT := wT_at 720 (by decide +kernel) (by decide +kernel)
theorem lk_L_30 : LkV RL 30 yX5_lay cX5_lay 2 (some .int) 0 := ⟨⟨wT_at 718 (by decide +kernel) (by decide +kernel), ms_X5_lay, mx_X5_lay, mi_X5_lay, mc_X5_lay⟩, md_X5_lay⟩
theorem mc_X4_select : Cond.code yX4_select cX4_select 1 (some .int) ∈ wT := wT_at 339 (by decide +kernel) (by decide +kernel)
theorem md_X4_select : yX4_select.cls ≠ "java/lang/invoke/MethodHandle" ∧ yX4_select.cls ≠ "java/lang/invoke/VarHandle" ∧ (parseMethodDescriptor yX4_select.desc).map (fun d => d.parameters.length) = some 0 := ⟨by decide +kernel, by decide +kernel, by decide +kernel⟩
theorem mi_X4_select : Cond.initialized yX4_select.cls ∈ wT := wT_at 53 (by decide +kernel) (by decide +kernel)
theorem ms_X4_select : Cond.instanceMethod yX4_select ∈ wT := wT_at 337 (by decide +kernel) (by decide +kernel)
theorem mx_X4_select : Cond.selects yX4_select.cls yX4_select yX4_select ∈ wT := wT_at 338 (by decide +kernel) (by decide +kernel)
theorem lk_L_31 : LkV RL 31 yX4_select cX4_select 1 (some .int) 0 := ⟨⟨wT_at 336 (by decide +kernel) (by decide +kernel), ms_X4_select, mx_X4_select, mi_X4_select, mc_X4_select⟩, md_X4_select⟩
theorem lk_L_34 : LkV RL 34 yX5_select cX5_select 1 (some .int) 0 := ⟨⟨wT_at 727 (by decide +kernel) (by decide +kernel), ms_X5_select, mx_X5_select, mi_X5_select, mc_X5_select⟩, md_X5_select⟩
theorem mc_X4_put : Cond.code yX4_put cX4_put 2 (some .int) ∈ wT := wT_at 363 (by decide +kernel) (by decide +kernel)
theorem md_X4_put : yX4_put.cls ≠ "java/lang/invoke/MethodHandle" ∧ yX4_put.cls ≠ "java/lang/invoke/VarHandle" ∧ (parseMethodDescriptor yX4_put.desc).map (fun d => d.parameters.length) = some 1 := ⟨by decide +kernel, by decide +kernel, by decide +kernel⟩
theorem mi_X4_put : Cond.initialized yX4_put.cls ∈ wT := wT_at 53 (by decide +kernel) (by decide +kernel)
theorem ms_X4_put : Cond.instanceMethod yX4_put ∈ wT := wT_at 361 (by decide +kernel) (by decide +kernel)
theorem mx_X4_put : Cond.selects yX4_put.cls yX4_put yX4_put ∈ wT := wT_at 362 (by decide +kernel) (by decide +kernel)
theorem lk_L_35 : LkV RL 35 yX4_put cX4_put 2 (some .int) 1 := ⟨⟨wT_at 360 (by decide +kernel) (by decide +kernel), ms_X4_put, mx_X4_put, mi_X4_put, mc_X4_put⟩, md_X4_put⟩
theorem mc_X5_put : Cond.code yX5_put cX5_put 2 (some .int) ∈ wT := wT_at 734 (by decide +kernel) (by decide +kernel)
theorem md_X5_put : yX5_put.cls ≠ "java/lang/invoke/MethodHandle" ∧ yX5_put.cls ≠ "java/lang/invoke/VarHandle" ∧ (parseMethodDescriptor yX5_put.desc).map (fun d => d.parameters.length) = some 1 := ⟨by decide +kernel, by decide +kernel, by decide +kernel⟩
theorem mi_X5_put : Cond.initialized yX5_put.cls ∈ wT := wT_at 58 (by decide +kernel) (by decide +kernel)
theorem ms_X5_put : Cond.instanceMethod yX5_put ∈ wT := wT_at 732 (by decide +kernel) (by decide +kernel)
theorem mx_X5_put : Cond.selects yX5_put.cls yX5_put yX5_put ∈ wT := wT_at 733 (by decide +kernel) (by decide +kernel)
theorem lk_L_38 : LkV RL 38 yX5_put cX5_put 2 (some .int) 1 := ⟨⟨wT_at 731 (by decide +kernel) (by decide +kernel), ms_X5_put, mx_X5_put, mi_X5_put, mc_X5_put⟩, md_X5_put⟩
theorem mc_X4_release : Cond.code yX4_release cX4_release 1 (some .int) ∈ wT := wT_at 433 (by decide +kernel) (by decide +kernel)
theorem md_X4_release : yX4_release.cls ≠ "java/lang/invoke/MethodHandle" ∧ yX4_release.cls ≠ "java/lang/invoke/VarHandle" ∧ (parseMethodDescriptor yX4_release.desc).map (fun d => d.parameters.length) = some 0 := ⟨by decide +kernel, by decide +kernel, by decide +kernel⟩
theorem mi_X4_release : Cond.initialized yX4_release.cls ∈ wT := wT_at 53 (by decide +kernel) (by decide +kernel)
theorem ms_X4_release : Cond.instanceMethod yX4_release ∈ wT := wT_at 431 (by decide +kernel) (by decide +kernel)
theorem mx_X4_release : Cond.selects yX4_release.cls yX4_release yX4_release ∈ wT := wT_at 432 (by decide +kernel) (by decide +kernel)
theorem lk_L_39 : LkV RL 39 yX4_release cX4_release 1 (some .int) 0 := ⟨⟨wT_at 430 (by decide +kernel) (by decide +kernel), ms_X4_release, mx_X4_release, mi_X4_release, mc_X4_release⟩, md_X4_release⟩
theorem mc_X5_release : Cond.code yX5_release cX5_release 1 (some .int) ∈ wT := wT_at 756 (by decide +kernel) (by decide +kernel)
theorem md_X5_release : yX5_release.cls ≠ "java/lang/invoke/MethodHandle" ∧ yX5_release.cls ≠ "java/lang/invoke/VarHandle" ∧ (parseMethodDescriptor yX5_release.desc).map (fun d => d.parameters.length) = some 0 := ⟨by decide +kernel, by decide +kernel, by decide +kernel⟩
theorem mi_X5_release : Cond.initialized yX5_release.cls ∈ wT := wT_at 58 (by decide +kernel) (by decide +kernel)
theorem ms_X5_release : Cond.instanceMethod yX5_release ∈ wT := wT_at 754 (by decide +kernel) (by decide +kernel)
theorem mx_X5_release : Cond.selects yX5_release.cls yX5_release yX5_release ∈ wT := wT_at 755 (by decide +kernel) (by decide +kernel)
theorem lk_L_42 : LkV RL 42 yX5_release cX5_release 1 (some .int) 0 := ⟨⟨wT_at 753 (by decide +kernel) (by decide +kernel), ms_X5_release, mx_X5_release, mi_X5_release, mc_X5_release⟩, md_X5_release⟩
theorem mc_X4_send : Cond.code yX4_send cX4_send 6 (some .int) ∈ wT := wT_at 529 (by decide +kernel) (by decide +kernel)
theorem md_X4_send : yX4_send.cls ≠ "java/lang/invoke/MethodHandle" ∧ yX4_send.cls ≠ "java/lang/invoke/VarHandle" ∧ (parseMethodDescriptor yX4_send.desc).map (fun d => d.parameters.length) = some 4 := ⟨by decide +kernel, by decide +kernel, by decide +kernel⟩
theorem mi_X4_send : Cond.initialized yX4_send.cls ∈ wT := wT_at 53 (by decide +kernel) (by decide +kernel)
theorem ms_X4_send : Cond.instanceMethod yX4_send ∈ wT := wT_at 527 (by decide +kernel) (by decide +kernel)
theorem mx_X4_send : Cond.selects yX4_send.cls yX4_send yX4_send ∈ wT := wT_at 528 (by decide +kernel) (by decide +kernel)
theorem lk_L_43 : LkV RL 43 yX4_send cX4_send 6 (some .int) 4 := ⟨⟨wT_at 526 (by decide +kernel) (by decide +kernel), ms_X4_send, mx_X4_send, mi_X4_send, mc_X4_send⟩, md_X4_send⟩
theorem mc_X5_send : Cond.code yX5_send cX5_send 7 (some .int) ∈ wT := wT_at 800 (by decide +kernel) (by decide +kernel)
theorem md_X5_send : yX5_send.cls ≠ "java/lang/invoke/MethodHandle" ∧ yX5_send.cls ≠ "java/lang/invoke/VarHandle" ∧ (parseMethodDescriptor yX5_send.desc).map (fun d => d.parameters.length) = some 4 := ⟨by decide +kernel, by decide +kernel, by decide +kernel⟩
theorem mi_X5_send : Cond.initialized yX5_send.cls ∈ wT := wT_at 58 (by decide +kernel) (by decide +kernel)
theorem ms_X5_send : Cond.instanceMethod yX5_send ∈ wT := wT_at 798 (by decide +kernel) (by decide +kernel)
theorem mx_X5_send : Cond.selects yX5_send.cls yX5_send yX5_send ∈ wT := wT_at 799 (by decide +kernel) (by decide +kernel)
theorem lk_L_47 : LkV RL 47 yX5_send cX5_send 7 (some .int) 4 := ⟨⟨wT_at 797 (by decide +kernel) (by decide +kernel), ms_X5_send, mx_X5_send, mi_X5_send, mc_X5_send⟩, md_X5_send⟩
theorem mc_X4_order : Cond.code yX4_order cX4_order 5 (some .int) ∈ wT := wT_at 537 (by decide +kernel) (by decide +kernel)
theorem md_X4_order : yX4_order.cls ≠ "java/lang/invoke/MethodHandle" ∧ yX4_order.cls ≠ "java/lang/invoke/VarHandle" ∧ (parseMethodDescriptor yX4_order.desc).map (fun d => d.parameters.length) = some 3 := ⟨by decide +kernel, by decide +kernel, by decide +kernel⟩
theorem mi_X4_order : Cond.initialized yX4_order.cls ∈ wT := wT_at 53 (by decide +kernel) (by decide +kernel)
theorem ms_X4_order : Cond.instanceMethod yX4_order ∈ wT := wT_at 535 (by decide +kernel) (by decide +kernel)
theorem mx_X4_order : Cond.selects yX4_order.cls yX4_order yX4_order ∈ wT := wT_at 536 (by decide +kernel) (by decide +kernel)
theorem lk_L_48 : LkV RL 48 yX4_order cX4_order 5 (some .int) 3 := ⟨⟨wT_at 534 (by decide +kernel) (by decide +kernel), ms_X4_order, mx_X4_order, mi_X4_order, mc_X4_order⟩, md_X4_order⟩
theorem mc_X5_order : Cond.code yX5_order cX5_order 5 (some .int) ∈ wT := wT_at 810 (by decide +kernel) (by decide +kernel)
theorem md_X5_order : yX5_order.cls ≠ "java/lang/invoke/MethodHandle" ∧ yX5_order.cls ≠ "java/lang/invoke/VarHandle" ∧ (parseMethodDescriptor yX5_order.desc).map (fun d => d.parameters.length) = some 3 := ⟨by decide +kernel, by decide +kernel, by decide +kernel⟩
theorem mi_X5_order : Cond.initialized yX5_order.cls ∈ wT := wT_at 58 (by decide +kernel) (by decide +kernel)
theorem ms_X5_order : Cond.instanceMethod yX5_order ∈ wT := wT_at 808 (by decide +kernel) (by decide +kernel)
theorem mx_X5_order : Cond.selects yX5_order.cls yX5_order yX5_order ∈ wT := wT_at 809 (by decide +kernel) (by decide +kernel)
theorem lk_L_52 : LkV RL 52 yX5_order cX5_order 5 (some .int) 3 := ⟨⟨wT_at 807 (by decide +kernel) (by decide +kernel), ms_X5_order, mx_X5_order, mi_X5_order, mc_X5_order⟩, md_X5_order⟩
theorem mc_X4_tick : Cond.code yX4_tick cX4_tick 4 (some .int) ∈ wT := wT_at 541 (by decide +kernel) (by decide +kernel)
theorem md_X4_tick : yX4_tick.cls ≠ "java/lang/invoke/MethodHandle" ∧ yX4_tick.cls ≠ "java/lang/invoke/VarHandle" ∧ (parseMethodDescriptor yX4_tick.desc).map (fun d => d.parameters.length) = some 1 := ⟨by decide +kernel, by decide +kernel, by decide +kernel⟩
theorem mi_X4_tick : Cond.initialized yX4_tick.cls ∈ wT := wT_at 53 (by decide +kernel) (by decide +kernel)
theorem ms_X4_tick : Cond.instanceMethod yX4_tick ∈ wT := wT_at 539 (by decide +kernel) (by decide +kernel)
theorem mx_X4_tick : Cond.selects yX4_tick.cls yX4_tick yX4_tick ∈ wT := wT_at 540 (by decide +kernel) (by decide +kernel)
theorem lk_L_53 : LkV RL 53 yX4_tick cX4_tick 4 (some .int) 1 := ⟨⟨wT_at 538 (by decide +kernel) (by decide +kernel), ms_X4_tick, mx_X4_tick, mi_X4_tick, mc_X4_tick⟩, md_X4_tick⟩
theorem mc_X5_tick : Cond.code yX5_tick cX5_tick 4 (some .int) ∈ wT := wT_at 814 (by decide +kernel) (by decide +kernel)
theorem md_X5_tick : yX5_tick.cls ≠ "java/lang/invoke/MethodHandle" ∧ yX5_tick.cls ≠ "java/lang/invoke/VarHandle" ∧ (parseMethodDescriptor yX5_tick.desc).map (fun d => d.parameters.length) = some 1 := ⟨by decide +kernel, by decide +kernel, by decide +kernel⟩
theorem mi_X5_tick : Cond.initialized yX5_tick.cls ∈ wT := wT_at 58 (by decide +kernel) (by decide +kernel)
theorem ms_X5_tick : Cond.instanceMethod yX5_tick ∈ wT := wT_at 812 (by decide +kernel) (by decide +kernel)
theorem mx_X5_tick : Cond.selects yX5_tick.cls yX5_tick yX5_tick ∈ wT := wT_at 813 (by decide +kernel) (by decide +kernel)
theorem lk_L_56 : LkV RL 56 yX5_tick cX5_tick 4 (some .int) 1 := ⟨⟨wT_at 811 (by decide +kernel) (by decide +kernel), ms_X5_tick, mx_X5_tick, mi_X5_tick, mc_X5_tick⟩, md_X5_tick⟩
theorem mc_X4_at : Cond.code yX4_at cX4_at 2 (some .int) ∈ wT := wT_at 550 (by decide +kernel) (by decide +kernel)
theorem md_X4_at : yX4_at.cls ≠ "java/lang/invoke/MethodHandle" ∧ yX4_at.cls ≠ "java/lang/invoke/VarHandle" ∧ (parseMethodDescriptor yX4_at.desc).map (fun d => d.parameters.length) = some 1 := ⟨by decide +kernel, by decide +kernel, by decide +kernel⟩
theorem mi_X4_at : Cond.initialized yX4_at.cls ∈ wT := wT_at 53 (by decide +kernel) (by decide +kernel)
theorem ms_X4_at : Cond.instanceMethod yX4_at ∈ wT := wT_at 548 (by decide +kernel) (by decide +kernel)
theorem mx_X4_at : Cond.selects yX4_at.cls yX4_at yX4_at ∈ wT := wT_at 549 (by decide +kernel) (by decide +kernel)
theorem lk_L_57 : LkV RL 57 yX4_at cX4_at 2 (some .int) 1 := ⟨⟨wT_at 547 (by decide +kernel) (by decide +kernel), ms_X4_at, mx_X4_at, mi_X4_at, mc_X4_at⟩, md_X4_at⟩
theorem mc_X5_at : Cond.code yX5_at cX5_at 2 (some .int) ∈ wT := wT_at 823 (by decide +kernel) (by decide +kernel)
theorem md_X5_at : yX5_at.cls ≠ "java/lang/invoke/MethodHandle" ∧ yX5_at.cls ≠ "java/lang/invoke/VarHandle" ∧ (parseMethodDescriptor yX5_at.desc).map (fun d => d.parameters.length) = some 1 := ⟨by decide +kernel, by decide +kernel, by decide +kernel⟩
theorem mi_X5_at : Cond.initialized yX5_at.cls ∈ wT := wT_at 58 (by decide +kernel) (by decide +kernel)
theorem ms_X5_at : Cond.instanceMethod yX5_at ∈ wT := wT_at 821 (by decide +kernel) (by decide +kernel)
theorem mx_X5_at : Cond.selects yX5_at.cls yX5_at yX5_at ∈ wT := wT_at 822 (by decide +kernel) (by decide +kernel)
theorem lk_L_60 : LkV RL 60 yX5_at cX5_at 2 (some .int) 1 := ⟨⟨wT_at 820 (by decide +kernel) (by decide +kernel), ms_X5_at, mx_X5_at, mi_X5_at, mc_X5_at⟩, md_X5_at⟩
theorem mc_X4_sector : Cond.code yX4_sector cX4_sector 3 (some .int) ∈ wT := wT_at 555 (by decide +kernel) (by decide +kernel)
theorem md_X4_sector : yX4_sector.cls ≠ "java/lang/invoke/MethodHandle" ∧ yX4_sector.cls ≠ "java/lang/invoke/VarHandle" ∧ (parseMethodDescriptor yX4_sector.desc).map (fun d => d.parameters.length) = some 2 := ⟨by decide +kernel, by decide +kernel, by decide +kernel⟩
theorem mi_X4_sector : Cond.initialized yX4_sector.cls ∈ wT := wT_at 53 (by decide +kernel) (by decide +kernel)
theorem ms_X4_sector : Cond.instanceMethod yX4_sector ∈ wT := wT_at 553 (by decide +kernel) (by decide +kernel)
theorem mx_X4_sector : Cond.selects yX4_sector.cls yX4_sector yX4_sector ∈ wT := wT_at 554 (by decide +kernel) (by decide +kernel)
theorem lk_L_61 : LkV RL 61 yX4_sector cX4_sector 3 (some .int) 2 := ⟨⟨wT_at 552 (by decide +kernel) (by decide +kernel), ms_X4_sector, mx_X4_sector, mi_X4_sector, mc_X4_sector⟩, md_X4_sector⟩
theorem mc_X5_sector : Cond.code yX5_sector cX5_sector 6 (some .int) ∈ wT := wT_at 827 (by decide +kernel) (by decide +kernel)
theorem md_X5_sector : yX5_sector.cls ≠ "java/lang/invoke/MethodHandle" ∧ yX5_sector.cls ≠ "java/lang/invoke/VarHandle" ∧ (parseMethodDescriptor yX5_sector.desc).map (fun d => d.parameters.length) = some 2 := ⟨by decide +kernel, by decide +kernel, by decide +kernel⟩
theorem mi_X5_sector : Cond.initialized yX5_sector.cls ∈ wT := wT_at 58 (by decide +kernel) (by decide +kernel)
theorem ms_X5_sector : Cond.instanceMethod yX5_sector ∈ wT := wT_at 825 (by decide +kernel) (by decide +kernel)
theorem mx_X5_sector : Cond.selects yX5_sector.cls yX5_sector yX5_sector ∈ wT := wT_at 826 (by decide +kernel) (by decide +kernel)
theorem lk_L_65 : LkV RL 65 yX5_sector cX5_sector 6 (some .int) 2 := ⟨⟨wT_at 824 (by decide +kernel) (by decide +kernel), ms_X5_sector, mx_X5_sector, mi_X5_sector, mc_X5_sector⟩, md_X5_sector⟩
theorem mc_X4_table : Cond.code yX4_table cX4_table 2 (some .int) ∈ wT := wT_at 578 (by decide +kernel) (by decide +kernel)
theorem md_X4_table : yX4_table.cls ≠ "java/lang/invoke/MethodHandle" ∧ yX4_table.cls ≠ "java/lang/invoke/VarHandle" ∧ (parseMethodDescriptor yX4_table.desc).map (fun d => d.parameters.length) = some 1 := ⟨by decide +kernel, by decide +kernel, by decide +kernel⟩
theorem mi_X4_table : Cond.initialized yX4_table.cls ∈ wT := wT_at 53 (by decide +kernel) (by decide +kernel)
theorem ms_X4_table : Cond.instanceMethod yX4_table ∈ wT := wT_at 576 (by decide +kernel) (by decide +kernel)
theorem mx_X4_table : Cond.selects yX4_table.cls yX4_table yX4_table ∈ wT := wT_at 577 (by decide +kernel) (by decide +kernel)
theorem lk_L_66 : LkV RL 66 yX4_table cX4_table 2 (some .int) 1 := ⟨⟨wT_at 575 (by decide +kernel) (by decide +kernel), ms_X4_table, mx_X4_table, mi_X4_table, mc_X4_table⟩, md_X4_table⟩
theorem mc_X5_table : Cond.code yX5_table cX5_table 2 (some .int) ∈ wT := wT_at 832 (by decide +kernel) (by decide +kernel)
theorem md_X5_table : yX5_table.cls ≠ "java/lang/invoke/MethodHandle" ∧ yX5_table.cls ≠ "java/lang/invoke/VarHandle" ∧ (parseMethodDescriptor yX5_table.desc).map (fun d => d.parameters.length) = some 1 := ⟨by decide +kernel, by decide +kernel, by decide +kernel⟩
theorem mi_X5_table : Cond.initialized yX5_table.cls ∈ wT := wT_at 58 (by decide +kernel) (by decide +kernel)
theorem ms_X5_table : Cond.instanceMethod yX5_table ∈ wT := wT_at 830 (by decide +kernel) (by decide +kernel)
theorem mx_X5_table : Cond.selects yX5_table.cls yX5_table yX5_table ∈ wT := wT_at 831 (by decide +kernel) (by decide +kernel)
theorem lk_L_69 : LkV RL 69 yX5_table cX5_table 2 (some .int) 1 := ⟨⟨wT_at 829 (by decide +kernel) (by decide +kernel), ms_X5_table, mx_X5_table, mi_X5_table, mc_X5_table⟩, md_X5_table⟩
theorem mc_X4_keep : Cond.code yX4_keep cX4_keep 1 (some .int) ∈ wT := wT_at 583 (by decide +kernel) (by decide +kernel)
theorem md_X4_keep : yX4_keep.cls ≠ "java/lang/invoke/MethodHandle" ∧ yX4_keep.cls ≠ "java/lang/invoke/VarHandle" ∧ (parseMethodDescriptor yX4_keep.desc).map (fun d => d.parameters.length) = some 0 := ⟨by decide +kernel, by decide +kernel, by decide +kernel⟩
theorem mi_X4_keep : Cond.initialized yX4_keep.cls ∈ wT := wT_at 53 (by decide +kernel) (by decide +kernel)
theorem ms_X4_keep : Cond.instanceMethod yX4_keep ∈ wT := wT_at 581 (by decide +kernel) (by decide +kernel)
theorem mx_X4_keep : Cond.selects yX4_keep.cls yX4_keep yX4_keep ∈ wT := wT_at 582 (by decide +kernel) (by decide +kernel)
theorem lk_L_70 : LkV RL 70 yX4_keep cX4_keep 1 (some .int) 0 := ⟨⟨wT_at 580 (by decide +kernel) (by decide +kernel), ms_X4_keep, mx_X4_keep, mi_X4_keep, mc_X4_keep⟩, md_X4_keep⟩
theorem mc_X5_keep : Cond.code yX5_keep cX5_keep 2 (some .int) ∈ wT := wT_at 837 (by decide +kernel) (by decide +kernel)
theorem md_X5_keep : yX5_keep.cls ≠ "java/lang/invoke/MethodHandle" ∧ yX5_keep.cls ≠ "java/lang/invoke/VarHandle" ∧ (parseMethodDescriptor yX5_keep.desc).map (fun d => d.parameters.length) = some 0 := ⟨by decide +kernel, by decide +kernel, by decide +kernel⟩
theorem mi_X5_keep : Cond.initialized yX5_keep.cls ∈ wT := wT_at 58 (by decide +kernel) (by decide +kernel)
theorem ms_X5_keep : Cond.instanceMethod yX5_keep ∈ wT := wT_at 835 (by decide +kernel) (by decide +kernel)
theorem mx_X5_keep : Cond.selects yX5_keep.cls yX5_keep yX5_keep ∈ wT := wT_at 836 (by decide +kernel) (by decide +kernel)
theorem lk_L_73 : LkV RL 73 yX5_keep cX5_keep 2 (some .int) 0 := ⟨⟨wT_at 834 (by decide +kernel) (by decide +kernel), ms_X5_keep, mx_X5_keep, mi_X5_keep, mc_X5_keep⟩, md_X5_keep⟩
theorem mc_X4_back : Cond.code yX4_back cX4_back 1 (some .int) ∈ wT := wT_at 599 (by decide +kernel) (by decide +kernel)
theorem md_X4_back : yX4_back.cls ≠ "java/lang/invoke/MethodHandle" ∧ yX4_back.cls ≠ "java/lang/invoke/VarHandle" ∧ (parseMethodDescriptor yX4_back.desc).map (fun d => d.parameters.length) = some 0 := ⟨by decide +kernel, by decide +kernel, by decide +kernel⟩
theorem mi_X4_back : Cond.initialized yX4_back.cls ∈ wT := wT_at 53 (by decide +kernel) (by decide +kernel)
theorem ms_X4_back : Cond.instanceMethod yX4_back ∈ wT := wT_at 597 (by decide +kernel) (by decide +kernel)
theorem mx_X4_back : Cond.selects yX4_back.cls yX4_back yX4_back ∈ wT := wT_at 598 (by decide +kernel) (by decide +kernel)
theorem lk_L_74 : LkV RL 74 yX4_back cX4_back 1 (some .int) 0 := ⟨⟨wT_at 596 (by decide +kernel) (by decide +kernel), ms_X4_back, mx_X4_back, mi_X4_back, mc_X4_back⟩, md_X4_back⟩
theorem mc_X5_back : Cond.code yX5_back cX5_back 2 (some .int) ∈ wT := wT_at 841 (by decide +kernel) (by decide +kernel)
theorem md_X5_back : yX5_back.cls ≠ "java/lang/invoke/MethodHandle" ∧ yX5_back.cls ≠ "java/lang/invoke/VarHandle" ∧ (parseMethodDescriptor yX5_back.desc).map (fun d => d.parameters.length) = some 0 := ⟨by decide +kernel, by decide +kernel, by decide +kernel⟩
theorem mi_X5_back : Cond.initialized yX5_back.cls ∈ wT := wT_at 58 (by decide +kernel) (by decide +kernel)
theorem ms_X5_back : Cond.instanceMethod yX5_back ∈ wT := wT_at 839 (by decide +kernel) (by decide +kernel)
theorem mx_X5_back : Cond.selects yX5_back.cls yX5_back yX5_back ∈ wT := wT_at 840 (by decide +kernel) (by decide +kernel)
theorem lk_L_77 : LkV RL 77 yX5_back cX5_back 2 (some .int) 0 := ⟨⟨wT_at 838 (by decide +kernel) (by decide +kernel), ms_X5_back, mx_X5_back, mi_X5_back, mc_X5_back⟩, md_X5_back⟩
theorem mc_X4_unlike : Cond.code yX4_unlike cX4_unlike 1 (some .int) ∈ wT := wT_at 603 (by decide +kernel) (by decide +kernel)
theorem md_X4_unlike : yX4_unlike.cls ≠ "java/lang/invoke/MethodHandle" ∧ yX4_unlike.cls ≠ "java/lang/invoke/VarHandle" ∧ (parseMethodDescriptor yX4_unlike.desc).map (fun d => d.parameters.length) = some 0 := ⟨by decide +kernel, by decide +kernel, by decide +kernel⟩
theorem mi_X4_unlike : Cond.initialized yX4_unlike.cls ∈ wT := wT_at 53 (by decide +kernel) (by decide +kernel)
theorem ms_X4_unlike : Cond.instanceMethod yX4_unlike ∈ wT := wT_at 601 (by decide +kernel) (by decide +kernel)
theorem mx_X4_unlike : Cond.selects yX4_unlike.cls yX4_unlike yX4_unlike ∈ wT := wT_at 602 (by decide +kernel) (by decide +kernel)
theorem lk_L_78 : LkV RL 78 yX4_unlike cX4_unlike 1 (some .int) 0 := ⟨⟨wT_at 600 (by decide +kernel) (by decide +kernel), ms_X4_unlike, mx_X4_unlike, mi_X4_unlike, mc_X4_unlike⟩, md_X4_unlike⟩
theorem mc_X5_unlike : Cond.code yX5_unlike cX5_unlike 3 (some .int) ∈ wT := wT_at 845 (by decide +kernel) (by decide +kernel)
theorem md_X5_unlike : yX5_unlike.cls ≠ "java/lang/invoke/MethodHandle" ∧ yX5_unlike.cls ≠ "java/lang/invoke/VarHandle" ∧ (parseMethodDescriptor yX5_unlike.desc).map (fun d => d.parameters.length) = some 0 := ⟨by decide +kernel, by decide +kernel, by decide +kernel⟩
theorem mi_X5_unlike : Cond.initialized yX5_unlike.cls ∈ wT := wT_at 58 (by decide +kernel) (by decide +kernel)
theorem ms_X5_unlike : Cond.instanceMethod yX5_unlike ∈ wT := wT_at 843 (by decide +kernel) (by decide +kernel)
theorem mx_X5_unlike : Cond.selects yX5_unlike.cls yX5_unlike yX5_unlike ∈ wT := wT_at 844 (by decide +kernel) (by decide +kernel)
theorem lk_L_81 : LkV RL 81 yX5_unlike cX5_unlike 3 (some .int) 0 := ⟨⟨wT_at 842 (by decide +kernel) (by decide +kernel), ms_X5_unlike, mx_X5_unlike, mi_X5_unlike, mc_X5_unlike⟩, md_X5_unlike⟩
theorem mc_X4_count : Cond.code yX4_count cX4_count 2 (some .int) ∈ wT := wT_at 611 (by decide +kernel) (by decide +kernel)
theorem md_X4_count : yX4_count.cls ≠ "java/lang/invoke/MethodHandle" ∧ yX4_count.cls ≠ "java/lang/invoke/VarHandle" ∧ (parseMethodDescriptor yX4_count.desc).map (fun d => d.parameters.length) = some 1 := ⟨by decide +kernel, by decide +kernel, by decide +kernel⟩
theorem mi_X4_count : Cond.initialized yX4_count.cls ∈ wT := wT_at 53 (by decide +kernel) (by decide +kernel)
theorem ms_X4_count : Cond.instanceMethod yX4_count ∈ wT := wT_at 609 (by decide +kernel) (by decide +kernel)
theorem mx_X4_count : Cond.selects yX4_count.cls yX4_count yX4_count ∈ wT := wT_at 610 (by decide +kernel) (by decide +kernel)
theorem lk_L_82 : LkV RL 82 yX4_count cX4_count 2 (some .int) 1 := ⟨⟨wT_at 608 (by decide +kernel) (by decide +kernel), ms_X4_count, mx_X4_count, mi_X4_count, mc_X4_count⟩, md_X4_count⟩
theorem mc_X5_count : Cond.code yX5_count cX5_count 2 (some .int) ∈ wT := wT_at 849 (by decide +kernel) (by decide +kernel)
theorem md_X5_count : yX5_count.cls ≠ "java/lang/invoke/MethodHandle" ∧ yX5_count.cls ≠ "java/lang/invoke/VarHandle" ∧ (parseMethodDescriptor yX5_count.desc).map (fun d => d.parameters.length) = some 1 := ⟨by decide +kernel, by decide +kernel, by decide +kernel⟩
theorem mi_X5_count : Cond.initialized yX5_count.cls ∈ wT := wT_at 58 (by decide +kernel) (by decide +kernel)
theorem ms_X5_count : Cond.instanceMethod yX5_count ∈ wT := wT_at 847 (by decide +kernel) (by decide +kernel)
theorem mx_X5_count : Cond.selects yX5_count.cls yX5_count yX5_count ∈ wT := wT_at 848 (by decide +kernel) (by decide +kernel)
theorem lk_L_85 : LkV RL 85 yX5_count cX5_count 2 (some .int) 1 := ⟨⟨wT_at 846 (by decide +kernel) (by decide +kernel), ms_X5_count, mx_X5_count, mi_X5_count, mc_X5_count⟩, md_X5_count⟩
theorem kb_31 : (Int8.ofInt (31)).toInt32 = 31 := by decide
theorem lc_L_7 : LkC RL 7 4 RX4 TX4 5 := ⟨rfl, cwX4, wT_at 59 (by decide +kernel) (by decide +kernel), wi_X4, wT_at 53 (by decide +kernel) (by decide +kernel)⟩
theorem lc_L_10 : LkC RL 10 5 RX5 TX5 9 := ⟨rfl, cwX5, wT_at 635 (by decide +kernel) (by decide +kernel), wi_X5, wT_at 58 (by decide +kernel) (by decide +kernel)⟩
theorem mc_X4_init : Cond.code yX4_init cX4_init 1 none ∈ wT := wT_at 63 (by decide +kernel) (by decide +kernel)
theorem lk_L_9 : LkI RL 9 yX4_init cX4_init 1 := ⟨⟨wT_at 61 (by decide +kernel) (by decide +kernel), wT_at 62 (by decide +kernel) (by decide +kernel), wT_at 53 (by decide +kernel) (by decide +kernel), mc_X4_init⟩, rfl, by decide +kernel, by decide +kernel, by decide +kernel⟩
theorem nf_X4 : ∀ j, j < 5 → defaultValue (tyX4 j) = vp_V [.null, .null, .null, .null, .int 0] j := fun j hj => by
  rcases (show j = 0 ∨ j = 1 ∨ j = 2 ∨ j = 3 ∨ j = 4 by omega) with rfl | rfl | rfl | rfl | rfl <;> rfl
theorem mc_X5_init : Cond.code yX5_init cX5_init 1 none ∈ wT := wT_at 639 (by decide +kernel) (by decide +kernel)
theorem lk_L_12 : LkI RL 12 yX5_init cX5_init 1 := ⟨⟨wT_at 637 (by decide +kernel) (by decide +kernel), wT_at 638 (by decide +kernel) (by decide +kernel), wT_at 58 (by decide +kernel) (by decide +kernel), mc_X5_init⟩, rfl, by decide +kernel, by decide +kernel, by decide +kernel⟩
theorem nf_X5 : ∀ j, j < 9 → defaultValue (tyX5 j) = vp_V [.int 0, .null, .int 0, .null, .null, .int 0, .null, .null, .int 0] j := fun j hj => by
  rcases (show j = 0 ∨ j = 1 ∨ j = 2 ∨ j = 3 ∨ j = 4 ∨ j = 5 ∨ j = 6 ∨ j = 7 ∨ j = 8 by omega) with rfl | rfl | rfl | rfl | rfl | rfl | rfl | rfl | rfl <;> rfl
