abbrev Y_L_begin : YC := (yL_begin, cL_begin, 5, some FieldType.int)
abbrev H_L_begin : List (Nat × Nat × Nat × Nat) := [(0, 10, 13, 13)]
set_option maxRecDepth 100000 in
theorem mwW_L_begin : Cond.static Y_L_begin.1 ∈ tbG ∧ Cond.initialized Y_L_begin.1.cls ∈ tbG ∧ Cond.codeWith Y_L_begin.1 Y_L_begin.2.1 Y_L_begin.2.2.1 Y_L_begin.2.2.2 H_L_begin ∈ tbG := ⟨tb_at 767 (by decide +kernel) rfl, tb_at 67 (by decide +kernel) rfl, tb_at 768 (rfl) rfl⟩
abbrev Y_L_add : YC := (yL_add, cL_add, 4, some FieldType.int)
abbrev H_L_add : List (Nat × Nat × Nat × Nat) := [(0, 9, 12, 19), (0, 9, 15, 21)]
set_option maxRecDepth 100000 in
theorem mwW_L_add : Cond.static Y_L_add.1 ∈ tbG ∧ Cond.initialized Y_L_add.1.cls ∈ tbG ∧ Cond.codeWith Y_L_add.1 Y_L_add.2.1 Y_L_add.2.2.1 Y_L_add.2.2.2 H_L_add ∈ tbG := ⟨tb_at 776 (by decide +kernel) rfl, tb_at 67 (by decide +kernel) rfl, tb_at 777 (rfl) rfl⟩
abbrev Y_L_removeAt : YC := (yL_removeAt, cL_removeAt, 4, some FieldType.int)
abbrev H_L_removeAt : List (Nat × Nat × Nat × Nat) := [(0, 9, 12, 19)]
set_option maxRecDepth 100000 in
theorem mwW_L_removeAt : Cond.static Y_L_removeAt.1 ∈ tbG ∧ Cond.initialized Y_L_removeAt.1.cls ∈ tbG ∧ Cond.codeWith Y_L_removeAt.1 Y_L_removeAt.2.1 Y_L_removeAt.2.2.1 Y_L_removeAt.2.2.2 H_L_removeAt ∈ tbG := ⟨tb_at 802 (by decide +kernel) rfl, tb_at 67 (by decide +kernel) rfl, tb_at 803 (rfl) rfl⟩
abbrev Y_L_lay : YC := (yL_lay, cL_lay, 5, some FieldType.int)
abbrev H_L_lay : List (Nat × Nat × Nat × Nat) := [(0, 10, 13, 19), (0, 10, 17, 13)]
set_option maxRecDepth 100000 in
theorem mwW_L_lay : Cond.static Y_L_lay.1 ∈ tbG ∧ Cond.initialized Y_L_lay.1.cls ∈ tbG ∧ Cond.codeWith Y_L_lay.1 Y_L_lay.2.1 Y_L_lay.2.2.1 Y_L_lay.2.2.2 H_L_lay ∈ tbG := ⟨tb_at 809 (by decide +kernel) rfl, tb_at 67 (by decide +kernel) rfl, tb_at 810 (rfl) rfl⟩
abbrev Y_L_laySplit : YC := (yL_laySplit, cL_laySplit, 3, some FieldType.int)
abbrev H_L_laySplit : List (Nat × Nat × Nat × Nat) := [(0, 8, 11, 21)]
set_option maxRecDepth 100000 in
theorem mwW_L_laySplit : Cond.static Y_L_laySplit.1 ∈ tbG ∧ Cond.initialized Y_L_laySplit.1.cls ∈ tbG ∧ Cond.codeWith Y_L_laySplit.1 Y_L_laySplit.2.1 Y_L_laySplit.2.2.1 Y_L_laySplit.2.2.2 H_L_laySplit ∈ tbG := ⟨tb_at 816 (by decide +kernel) rfl, tb_at 67 (by decide +kernel) rfl, tb_at 817 (rfl) rfl⟩
abbrev Y_L_sum : YC := (yL_sum, cL_sum, 5, some FieldType.int)
abbrev H_L_sum : List (Nat × Nat × Nat × Nat) := [(0, 10, 13, 19)]
set_option maxRecDepth 100000 in
theorem mwW_L_sum : Cond.static Y_L_sum.1 ∈ tbG ∧ Cond.initialized Y_L_sum.1.cls ∈ tbG ∧ Cond.codeWith Y_L_sum.1 Y_L_sum.2.1 Y_L_sum.2.2.1 Y_L_sum.2.2.2 H_L_sum ∈ tbG := ⟨tb_at 824 (by decide +kernel) rfl, tb_at 67 (by decide +kernel) rfl, tb_at 825 (rfl) rfl⟩
abbrev Y_L_element : YC := (yL_element, cL_element, 5, some FieldType.int)
abbrev H_L_element : List (Nat × Nat × Nat × Nat) := [(0, 10, 13, 19), (0, 10, 17, 13)]
set_option maxRecDepth 100000 in
theorem mwW_L_element : Cond.static Y_L_element.1 ∈ tbG ∧ Cond.initialized Y_L_element.1.cls ∈ tbG ∧ Cond.codeWith Y_L_element.1 Y_L_element.2.1 Y_L_element.2.2.1 Y_L_element.2.2.2 H_L_element ∈ tbG := ⟨tb_at 832 (by decide +kernel) rfl, tb_at 67 (by decide +kernel) rfl, tb_at 833 (rfl) rfl⟩
abbrev Y_L_at : YC := (yL_at, cL_at, 5, some FieldType.int)
abbrev H_L_at : List (Nat × Nat × Nat × Nat) := [(0, 10, 13, 19), (0, 10, 17, 13)]
set_option maxRecDepth 100000 in
theorem mwW_L_at : Cond.static Y_L_at.1 ∈ tbG ∧ Cond.initialized Y_L_at.1.cls ∈ tbG ∧ Cond.codeWith Y_L_at.1 Y_L_at.2.1 Y_L_at.2.2.1 Y_L_at.2.2.2 H_L_at ∈ tbG := ⟨tb_at 844 (by decide +kernel) rfl, tb_at 67 (by decide +kernel) rfl, tb_at 845 (rfl) rfl⟩
abbrev Y_L_set : YC := (yL_set, cL_set, 5, some FieldType.int)
abbrev H_L_set : List (Nat × Nat × Nat × Nat) := [(0, 10, 13, 13)]
set_option maxRecDepth 100000 in
theorem mwW_L_set : Cond.static Y_L_set.1 ∈ tbG ∧ Cond.initialized Y_L_set.1.cls ∈ tbG ∧ Cond.codeWith Y_L_set.1 Y_L_set.2.1 Y_L_set.2.2.1 Y_L_set.2.2.2 H_L_set ∈ tbG := ⟨tb_at 848 (by decide +kernel) rfl, tb_at 67 (by decide +kernel) rfl, tb_at 849 (rfl) rfl⟩
abbrev Y_L_block : YC := (yL_block, cL_block, 4, some FieldType.int)
abbrev H_L_block : List (Nat × Nat × Nat × Nat) := [(0, 9, 12, 13)]
set_option maxRecDepth 100000 in
theorem mwW_L_block : Cond.static Y_L_block.1 ∈ tbG ∧ Cond.initialized Y_L_block.1.cls ∈ tbG ∧ Cond.codeWith Y_L_block.1 Y_L_block.2.1 Y_L_block.2.2.1 Y_L_block.2.2.2 H_L_block ∈ tbG := ⟨tb_at 852 (by decide +kernel) rfl, tb_at 67 (by decide +kernel) rfl, tb_at 853 (rfl) rfl⟩
abbrev Y_L_part : YC := (yL_part, cL_part, 5, some FieldType.int)
abbrev H_L_part : List (Nat × Nat × Nat × Nat) := [(0, 10, 13, 13)]
set_option maxRecDepth 100000 in
theorem mwW_L_part : Cond.static Y_L_part.1 ∈ tbG ∧ Cond.initialized Y_L_part.1.cls ∈ tbG ∧ Cond.codeWith Y_L_part.1 Y_L_part.2.1 Y_L_part.2.2.1 Y_L_part.2.2.2 H_L_part ∈ tbG := ⟨tb_at 864 (by decide +kernel) rfl, tb_at 67 (by decide +kernel) rfl, tb_at 865 (rfl) rfl⟩
abbrev Y_L_whole : YC := (yL_whole, cL_whole, 4, some FieldType.int)
abbrev H_L_whole : List (Nat × Nat × Nat × Nat) := [(0, 9, 12, 13)]
set_option maxRecDepth 100000 in
theorem mwW_L_whole : Cond.static Y_L_whole.1 ∈ tbG ∧ Cond.initialized Y_L_whole.1.cls ∈ tbG ∧ Cond.codeWith Y_L_whole.1 Y_L_whole.2.1 Y_L_whole.2.2.1 Y_L_whole.2.2.2 H_L_whole ∈ tbG := ⟨tb_at 868 (by decide +kernel) rfl, tb_at 67 (by decide +kernel) rfl, tb_at 869 (rfl) rfl⟩
abbrev Y_L_reason : YC := (yL_reason, cL_reason, 4, some FieldType.int)
abbrev H_L_reason : List (Nat × Nat × Nat × Nat) := [(0, 9, 12, 13)]
set_option maxRecDepth 100000 in
theorem mwW_L_reason : Cond.static Y_L_reason.1 ∈ tbG ∧ Cond.initialized Y_L_reason.1.cls ∈ tbG ∧ Cond.codeWith Y_L_reason.1 Y_L_reason.2.1 Y_L_reason.2.2.1 Y_L_reason.2.2.2 H_L_reason ∈ tbG := ⟨tb_at 872 (by decide +kernel) rfl, tb_at 67 (by decide +kernel) rfl, tb_at 873 (rfl) rfl⟩
abbrev Y_L_blocksWith : YC := (yL_blocksWith, cL_blocksWith, 5, some FieldType.int)
abbrev H_L_blocksWith : List (Nat × Nat × Nat × Nat) := [(0, 10, 13, 19), (0, 10, 17, 13)]
set_option maxRecDepth 100000 in
theorem mwW_L_blocksWith : Cond.static Y_L_blocksWith.1 ∈ tbG ∧ Cond.initialized Y_L_blocksWith.1.cls ∈ tbG ∧ Cond.codeWith Y_L_blocksWith.1 Y_L_blocksWith.2.1 Y_L_blocksWith.2.2.1 Y_L_blocksWith.2.2.2 H_L_blocksWith ∈ tbG := ⟨tb_at 879 (by decide +kernel) rfl, tb_at 67 (by decide +kernel) rfl, tb_at 880 (rfl) rfl⟩
abbrev Y_L_alike : YC := (yL_alike, cL_alike, 5, some FieldType.int)
abbrev H_L_alike : List (Nat × Nat × Nat × Nat) := [(0, 10, 13, 13)]
set_option maxRecDepth 100000 in
theorem mwW_L_alike : Cond.static Y_L_alike.1 ∈ tbG ∧ Cond.initialized Y_L_alike.1.cls ∈ tbG ∧ Cond.codeWith Y_L_alike.1 Y_L_alike.2.1 Y_L_alike.2.2.1 Y_L_alike.2.2.2 H_L_alike ∈ tbG := ⟨tb_at 891 (by decide +kernel) rfl, tb_at 67 (by decide +kernel) rfl, tb_at 892 (rfl) rfl⟩
abbrev Y_L_type : YC := (yL_type, cL_type, 4, some FieldType.int)
abbrev H_L_type : List (Nat × Nat × Nat × Nat) := [(0, 9, 12, 13), (0, 9, 15, 21)]
set_option maxRecDepth 100000 in
theorem mwW_L_type : Cond.static Y_L_type.1 ∈ tbG ∧ Cond.initialized Y_L_type.1.cls ∈ tbG ∧ Cond.codeWith Y_L_type.1 Y_L_type.2.1 Y_L_type.2.2.1 Y_L_type.2.2.2 H_L_type ∈ tbG := ⟨tb_at 898 (by decide +kernel) rfl, tb_at 67 (by decide +kernel) rfl, tb_at 899 (rfl) rfl⟩
abbrev Y_L_undo : YC := (yL_undo, cL_undo, 3, some FieldType.int)
abbrev H_L_undo : List (Nat × Nat × Nat × Nat) := [(0, 8, 11, 21)]
set_option maxRecDepth 100000 in
theorem mwW_L_undo : Cond.static Y_L_undo.1 ∈ tbG ∧ Cond.initialized Y_L_undo.1.cls ∈ tbG ∧ Cond.codeWith Y_L_undo.1 Y_L_undo.2.1 Y_L_undo.2.2.1 Y_L_undo.2.2.2 H_L_undo ∈ tbG := ⟨tb_at 911 (by decide +kernel) rfl, tb_at 67 (by decide +kernel) rfl, tb_at 912 (rfl) rfl⟩
abbrev Y_L_law : YC := (x, cL_law, 9, ret)
theorem lk_L_7 : LkV RL 7 Y_X7_begin 2 := ⟨tb_at 770 (by decide +kernel) rfl, mw_X7_begin.1, mw_X7_begin.2.1, mw_X7_begin.2.2.1, mw_X7_begin.2.2.2, by decide, ⟨by decide, by decide, by decide +kernel⟩⟩
theorem lk_L_15 : LkV RL 15 Y_X7_add 1 := ⟨tb_at 780 (by decide +kernel) rfl, mw_X7_add.1, mw_X7_add.2.1, mw_X7_add.2.2.1, mw_X7_add.2.2.2, by decide, ⟨by decide, by decide, by decide +kernel⟩⟩
theorem lk_L_23 : LkV RL 23 Y_X7_removeAt 1 := ⟨tb_at 804 (by decide +kernel) rfl, mw_X7_removeAt.1, mw_X7_removeAt.2.1, mw_X7_removeAt.2.2.1, mw_X7_removeAt.2.2.2, by decide, ⟨by decide, by decide, by decide +kernel⟩⟩
theorem lk_L_26 : LkV RL 26 Y_X7_lay 2 := ⟨tb_at 811 (by decide +kernel) rfl, mw_X7_lay.1, mw_X7_lay.2.1, mw_X7_lay.2.2.1, mw_X7_lay.2.2.2, by decide, ⟨by decide, by decide, by decide +kernel⟩⟩
theorem lk_L_29 : LkV RL 29 Y_X7_laySplit 0 := ⟨tb_at 818 (by decide +kernel) rfl, mw_X7_laySplit.1, mw_X7_laySplit.2.1, mw_X7_laySplit.2.2.1, mw_X7_laySplit.2.2.2, by decide, ⟨by decide, by decide, by decide +kernel⟩⟩
theorem lk_L_33 : LkV RL 33 Y_X7_sum 2 := ⟨tb_at 826 (by decide +kernel) rfl, mw_X7_sum.1, mw_X7_sum.2.1, mw_X7_sum.2.2.1, mw_X7_sum.2.2.2, by decide, ⟨by decide, by decide, by decide +kernel⟩⟩
theorem lk_L_36 : LkV RL 36 Y_X7_element 2 := ⟨tb_at 834 (by decide +kernel) rfl, mw_X7_element.1, mw_X7_element.2.1, mw_X7_element.2.2.1, mw_X7_element.2.2.2, by decide, ⟨by decide, by decide, by decide +kernel⟩⟩
theorem lk_L_39 : LkV RL 39 Y_X7_at 2 := ⟨tb_at 846 (by decide +kernel) rfl, mw_X7_at.1, mw_X7_at.2.1, mw_X7_at.2.2.1, mw_X7_at.2.2.2, by decide, ⟨by decide, by decide, by decide +kernel⟩⟩
theorem lk_L_42 : LkV RL 42 Y_X7_set 2 := ⟨tb_at 850 (by decide +kernel) rfl, mw_X7_set.1, mw_X7_set.2.1, mw_X7_set.2.2.1, mw_X7_set.2.2.2, by decide, ⟨by decide, by decide, by decide +kernel⟩⟩
theorem lk_L_45 : LkV RL 45 Y_X7_block 1 := ⟨tb_at 854 (by decide +kernel) rfl, mw_X7_block.1, mw_X7_block.2.1, mw_X7_block.2.2.1, mw_X7_block.2.2.2, by decide, ⟨by decide, by decide, by decide +kernel⟩⟩
theorem lk_L_48 : LkV RL 48 Y_X7_part 2 := ⟨tb_at 866 (by decide +kernel) rfl, mw_X7_part.1, mw_X7_part.2.1, mw_X7_part.2.2.1, mw_X7_part.2.2.2, by decide, ⟨by decide, by decide, by decide +kernel⟩⟩
theorem lk_L_51 : LkV RL 51 Y_X7_whole 1 := ⟨tb_at 870 (by decide +kernel) rfl, mw_X7_whole.1, mw_X7_whole.2.1, mw_X7_whole.2.2.1, mw_X7_whole.2.2.2, by decide, ⟨by decide, by decide, by decide +kernel⟩⟩
theorem lk_L_54 : LkV RL 54 Y_X7_reason 1 := ⟨tb_at 874 (by decide +kernel) rfl, mw_X7_reason.1, mw_X7_reason.2.1, mw_X7_reason.2.2.1, mw_X7_reason.2.2.2, by decide, ⟨by decide, by decide, by decide +kernel⟩⟩
theorem lk_L_57 : LkV RL 57 Y_X7_blocksWith 2 := ⟨tb_at 881 (by decide +kernel) rfl, mw_X7_blocksWith.1, mw_X7_blocksWith.2.1, mw_X7_blocksWith.2.2.1, mw_X7_blocksWith.2.2.2, by decide, ⟨by decide, by decide, by decide +kernel⟩⟩
theorem lk_L_60 : LkV RL 60 Y_X7_alike 2 := ⟨tb_at 893 (by decide +kernel) rfl, mw_X7_alike.1, mw_X7_alike.2.1, mw_X7_alike.2.2.1, mw_X7_alike.2.2.2, by decide, ⟨by decide, by decide, by decide +kernel⟩⟩
theorem lk_L_63 : LkV RL 63 Y_X7_type 1 := ⟨tb_at 900 (by decide +kernel) rfl, mw_X7_type.1, mw_X7_type.2.1, mw_X7_type.2.2.1, mw_X7_type.2.2.2, by decide, ⟨by decide, by decide, by decide +kernel⟩⟩
theorem lk_L_66 : LkV RL 66 Y_X7_undo 0 := ⟨tb_at 913 (by decide +kernel) rfl, mw_X7_undo.1, mw_X7_undo.2.1, mw_X7_undo.2.2.1, mw_X7_undo.2.2.2, by decide, ⟨by decide, by decide, by decide +kernel⟩⟩
theorem lk_L_73 : LkW RL 73 Y_L_begin H_L_begin 4 := ⟨tb_at 766 (by decide +kernel) rfl, mwW_L_begin.1, mwW_L_begin.2.1, mwW_L_begin.2.2, by decide, ⟨by decide, by decide, by decide +kernel⟩⟩
theorem lk_L_78 : LkV RL 78 Y_X8_begin 2 := ⟨tb_at 996 (by decide +kernel) rfl, mw_X8_begin.1, mw_X8_begin.2.1, mw_X8_begin.2.2.1, mw_X8_begin.2.2.2, by decide, ⟨by decide, by decide, by decide +kernel⟩⟩
theorem lk_L_79 : LkV RL 79 Y_X8_thrown 0 := ⟨tb_at 984 (by decide +kernel) rfl, mw_X8_thrown.1, mw_X8_thrown.2.1, mw_X8_thrown.2.2.1, mw_X8_thrown.2.2.2, by decide, ⟨by decide, by decide, by decide +kernel⟩⟩
theorem lk_L_82 : LkW RL 82 Y_L_add H_L_add 3 := ⟨tb_at 775 (by decide +kernel) rfl, mwW_L_add.1, mwW_L_add.2.1, mwW_L_add.2.2, by decide, ⟨by decide, by decide, by decide +kernel⟩⟩
theorem lk_L_85 : LkV RL 85 Y_X8_add 1 := ⟨tb_at 1027 (by decide +kernel) rfl, mw_X8_add.1, mw_X8_add.2.1, mw_X8_add.2.2.1, mw_X8_add.2.2.2, by decide, ⟨by decide, by decide, by decide +kernel⟩⟩
theorem lk_L_86 : LkW RL 86 Y_L_removeAt H_L_removeAt 3 := ⟨tb_at 801 (by decide +kernel) rfl, mwW_L_removeAt.1, mwW_L_removeAt.2.1, mwW_L_removeAt.2.2, by decide, ⟨by decide, by decide, by decide +kernel⟩⟩
theorem lk_L_88 : LkV RL 88 Y_X8_removeAt 1 := ⟨tb_at 1031 (by decide +kernel) rfl, mw_X8_removeAt.1, mw_X8_removeAt.2.1, mw_X8_removeAt.2.2.1, mw_X8_removeAt.2.2.2, by decide, ⟨by decide, by decide, by decide +kernel⟩⟩
theorem lk_L_89 : LkW RL 89 Y_L_lay H_L_lay 4 := ⟨tb_at 808 (by decide +kernel) rfl, mwW_L_lay.1, mwW_L_lay.2.1, mwW_L_lay.2.2, by decide, ⟨by decide, by decide, by decide +kernel⟩⟩
theorem lk_L_91 : LkV RL 91 Y_X8_lay 2 := ⟨tb_at 1039 (by decide +kernel) rfl, mw_X8_lay.1, mw_X8_lay.2.1, mw_X8_lay.2.2.1, mw_X8_lay.2.2.2, by decide, ⟨by decide, by decide, by decide +kernel⟩⟩
theorem lk_L_92 : LkW RL 92 Y_L_laySplit H_L_laySplit 2 := ⟨tb_at 815 (by decide +kernel) rfl, mwW_L_laySplit.1, mwW_L_laySplit.2.1, mwW_L_laySplit.2.2, by decide, ⟨by decide, by decide, by decide +kernel⟩⟩
theorem lk_L_95 : LkV RL 95 Y_X8_laySplit 0 := ⟨tb_at 1043 (by decide +kernel) rfl, mw_X8_laySplit.1, mw_X8_laySplit.2.1, mw_X8_laySplit.2.2.1, mw_X8_laySplit.2.2.2, by decide, ⟨by decide, by decide, by decide +kernel⟩⟩
theorem lk_L_96 : LkW RL 96 Y_L_sum H_L_sum 4 := ⟨tb_at 823 (by decide +kernel) rfl, mwW_L_sum.1, mwW_L_sum.2.1, mwW_L_sum.2.2, by decide, ⟨by decide, by decide, by decide +kernel⟩⟩
theorem lk_L_98 : LkV RL 98 Y_X8_sum 2 := ⟨tb_at 1011 (by decide +kernel) rfl, mw_X8_sum.1, mw_X8_sum.2.1, mw_X8_sum.2.2.1, mw_X8_sum.2.2.2, by decide, ⟨by decide, by decide, by decide +kernel⟩⟩
theorem lk_L_99 : LkW RL 99 Y_L_element H_L_element 4 := ⟨tb_at 831 (by decide +kernel) rfl, mwW_L_element.1, mwW_L_element.2.1, mwW_L_element.2.2, by decide, ⟨by decide, by decide, by decide +kernel⟩⟩
theorem lk_L_101 : LkV RL 101 Y_X8_element 2 := ⟨tb_at 1105 (by decide +kernel) rfl, mw_X8_element.1, mw_X8_element.2.1, mw_X8_element.2.2.1, mw_X8_element.2.2.2, by decide, ⟨by decide, by decide, by decide +kernel⟩⟩
theorem lk_L_102 : LkV RL 102 Y_X7_bound 0 := ⟨tb_at 241 (by decide +kernel) rfl, mw_X7_bound.1, mw_X7_bound.2.1, mw_X7_bound.2.2.1, mw_X7_bound.2.2.2, by decide, ⟨by decide, by decide, by decide +kernel⟩⟩
theorem lk_L_105 : LkV RL 105 Y_X8_bound 0 := ⟨tb_at 1023 (by decide +kernel) rfl, mw_X8_bound.1, mw_X8_bound.2.1, mw_X8_bound.2.2.1, mw_X8_bound.2.2.2, by decide, ⟨by decide, by decide, by decide +kernel⟩⟩
theorem lk_L_106 : LkW RL 106 Y_L_at H_L_at 4 := ⟨tb_at 843 (by decide +kernel) rfl, mwW_L_at.1, mwW_L_at.2.1, mwW_L_at.2.2, by decide, ⟨by decide, by decide, by decide +kernel⟩⟩
theorem lk_L_108 : LkV RL 108 Y_X8_at 2 := ⟨tb_at 1121 (by decide +kernel) rfl, mw_X8_at.1, mw_X8_at.2.1, mw_X8_at.2.2.1, mw_X8_at.2.2.2, by decide, ⟨by decide, by decide, by decide +kernel⟩⟩
theorem lk_L_109 : LkW RL 109 Y_L_set H_L_set 4 := ⟨tb_at 847 (by decide +kernel) rfl, mwW_L_set.1, mwW_L_set.2.1, mwW_L_set.2.2, by decide, ⟨by decide, by decide, by decide +kernel⟩⟩
theorem lk_L_111 : LkV RL 111 Y_X8_set 2 := ⟨tb_at 1074 (by decide +kernel) rfl, mw_X8_set.1, mw_X8_set.2.1, mw_X8_set.2.2.1, mw_X8_set.2.2.2, by decide, ⟨by decide, by decide, by decide +kernel⟩⟩
theorem lk_L_112 : LkW RL 112 Y_L_block H_L_block 3 := ⟨tb_at 851 (by decide +kernel) rfl, mwW_L_block.1, mwW_L_block.2.1, mwW_L_block.2.2, by decide, ⟨by decide, by decide, by decide +kernel⟩⟩
theorem lk_L_114 : LkV RL 114 Y_X8_block 1 := ⟨tb_at 1093 (by decide +kernel) rfl, mw_X8_block.1, mw_X8_block.2.1, mw_X8_block.2.2.1, mw_X8_block.2.2.2, by decide, ⟨by decide, by decide, by decide +kernel⟩⟩
theorem lk_L_115 : LkW RL 115 Y_L_part H_L_part 4 := ⟨tb_at 863 (by decide +kernel) rfl, mwW_L_part.1, mwW_L_part.2.1, mwW_L_part.2.2, by decide, ⟨by decide, by decide, by decide +kernel⟩⟩
theorem lk_L_117 : LkV RL 117 Y_X8_part 2 := ⟨tb_at 1129 (by decide +kernel) rfl, mw_X8_part.1, mw_X8_part.2.1, mw_X8_part.2.2.1, mw_X8_part.2.2.2, by decide, ⟨by decide, by decide, by decide +kernel⟩⟩
theorem lk_L_118 : LkW RL 118 Y_L_whole H_L_whole 3 := ⟨tb_at 867 (by decide +kernel) rfl, mwW_L_whole.1, mwW_L_whole.2.1, mwW_L_whole.2.2, by decide, ⟨by decide, by decide, by decide +kernel⟩⟩
theorem lk_L_120 : LkV RL 120 Y_X8_whole 1 := ⟨tb_at 1137 (by decide +kernel) rfl, mw_X8_whole.1, mw_X8_whole.2.1, mw_X8_whole.2.2.1, mw_X8_whole.2.2.2, by decide, ⟨by decide, by decide, by decide +kernel⟩⟩
theorem lk_L_121 : LkV RL 121 Y_X7_sums 0 := ⟨tb_at 260 (by decide +kernel) rfl, mw_X7_sums.1, mw_X7_sums.2.1, mw_X7_sums.2.2.1, mw_X7_sums.2.2.2, by decide, ⟨by decide, by decide, by decide +kernel⟩⟩
theorem lk_L_125 : LkV RL 125 Y_X8_sums 0 := ⟨tb_at 1097 (by decide +kernel) rfl, mw_X8_sums.1, mw_X8_sums.2.1, mw_X8_sums.2.2.1, mw_X8_sums.2.2.2, by decide, ⟨by decide, by decide, by decide +kernel⟩⟩
theorem lk_L_126 : LkV RL 126 Y_X7_cross 0 := ⟨tb_at 279 (by decide +kernel) rfl, mw_X7_cross.1, mw_X7_cross.2.1, mw_X7_cross.2.2.1, mw_X7_cross.2.2.2, by decide, ⟨by decide, by decide, by decide +kernel⟩⟩
theorem lk_L_130 : LkV RL 130 Y_X8_cross 0 := ⟨tb_at 1161 (by decide +kernel) rfl, mw_X8_cross.1, mw_X8_cross.2.1, mw_X8_cross.2.2.1, mw_X8_cross.2.2.2, by decide, ⟨by decide, by decide, by decide +kernel⟩⟩
theorem lk_L_131 : LkW RL 131 Y_L_reason H_L_reason 3 := ⟨tb_at 871 (by decide +kernel) rfl, mwW_L_reason.1, mwW_L_reason.2.1, mwW_L_reason.2.2, by decide, ⟨by decide, by decide, by decide +kernel⟩⟩
theorem lk_L_133 : LkV RL 133 Y_X8_reason 1 := ⟨tb_at 1165 (by decide +kernel) rfl, mw_X8_reason.1, mw_X8_reason.2.1, mw_X8_reason.2.2.1, mw_X8_reason.2.2.2, by decide, ⟨by decide, by decide, by decide +kernel⟩⟩
theorem lk_L_134 : LkV RL 134 Y_X7_freeElement 0 := ⟨tb_at 287 (by decide +kernel) rfl, mw_X7_freeElement.1, mw_X7_freeElement.2.1, mw_X7_freeElement.2.2.1, mw_X7_freeElement.2.2.2, by decide, ⟨by decide, by decide, by decide +kernel⟩⟩
theorem lk_L_137 : LkV RL 137 Y_X8_freeElement 0 := ⟨tb_at 1169 (by decide +kernel) rfl, mw_X8_freeElement.1, mw_X8_freeElement.2.1, mw_X8_freeElement.2.2.1, mw_X8_freeElement.2.2.2, by decide, ⟨by decide, by decide, by decide +kernel⟩⟩
theorem lk_L_138 : LkV RL 138 Y_X7_freeFor 0 := ⟨tb_at 300 (by decide +kernel) rfl, mw_X7_freeFor.1, mw_X7_freeFor.2.1, mw_X7_freeFor.2.2.1, mw_X7_freeFor.2.2.2, by decide, ⟨by decide, by decide, by decide +kernel⟩⟩
theorem lk_L_141 : LkV RL 141 Y_X8_freeFor 0 := ⟨tb_at 1181 (by decide +kernel) rfl, mw_X8_freeFor.1, mw_X8_freeFor.2.1, mw_X8_freeFor.2.2.1, mw_X8_freeFor.2.2.2, by decide, ⟨by decide, by decide, by decide +kernel⟩⟩
theorem lk_L_142 : LkW RL 142 Y_L_blocksWith H_L_blocksWith 4 := ⟨tb_at 878 (by decide +kernel) rfl, mwW_L_blocksWith.1, mwW_L_blocksWith.2.1, mwW_L_blocksWith.2.2, by decide, ⟨by decide, by decide, by decide +kernel⟩⟩
theorem lk_L_144 : LkV RL 144 Y_X8_blocksWith 2 := ⟨tb_at 1185 (by decide +kernel) rfl, mw_X8_blocksWith.1, mw_X8_blocksWith.2.1, mw_X8_blocksWith.2.2.1, mw_X8_blocksWith.2.2.2, by decide, ⟨by decide, by decide, by decide +kernel⟩⟩
theorem lk_L_145 : LkW RL 145 Y_L_alike H_L_alike 4 := ⟨tb_at 890 (by decide +kernel) rfl, mwW_L_alike.1, mwW_L_alike.2.1, mwW_L_alike.2.2, by decide, ⟨by decide, by decide, by decide +kernel⟩⟩
theorem lk_L_147 : LkV RL 147 Y_X8_alike 2 := ⟨tb_at 1189 (by decide +kernel) rfl, mw_X8_alike.1, mw_X8_alike.2.1, mw_X8_alike.2.2.1, mw_X8_alike.2.2.2, by decide, ⟨by decide, by decide, by decide +kernel⟩⟩
theorem lk_L_148 : LkV RL 148 Y_X7_unlikeBlocks 0 := ⟨tb_at 305 (by decide +kernel) rfl, mw_X7_unlikeBlocks.1, mw_X7_unlikeBlocks.2.1, mw_X7_unlikeBlocks.2.2.1, mw_X7_unlikeBlocks.2.2.2, by decide, ⟨by decide, by decide, by decide +kernel⟩⟩
theorem lk_L_151 : LkV RL 151 Y_X8_unlikeBlocks 0 := ⟨tb_at 1197 (by decide +kernel) rfl, mw_X8_unlikeBlocks.1, mw_X8_unlikeBlocks.2.1, mw_X8_unlikeBlocks.2.2.1, mw_X8_unlikeBlocks.2.2.2, by decide, ⟨by decide, by decide, by decide +kernel⟩⟩
theorem lk_L_152 : LkW RL 152 Y_L_type H_L_type 3 := ⟨tb_at 897 (by decide +kernel) rfl, mwW_L_type.1, mwW_L_type.2.1, mwW_L_type.2.2, by decide, ⟨by decide, by decide, by decide +kernel⟩⟩
theorem lk_L_154 : LkV RL 154 Y_X8_type 1 := ⟨tb_at 1201 (by decide +kernel) rfl, mw_X8_type.1, mw_X8_type.2.1, mw_X8_type.2.2.1, mw_X8_type.2.2.2, by decide, ⟨by decide, by decide, by decide +kernel⟩⟩
theorem lk_L_155 : LkV RL 155 Y_X7_clearCommands 0 := ⟨tb_at 354 (by decide +kernel) rfl, mw_X7_clearCommands.1, mw_X7_clearCommands.2.1, mw_X7_clearCommands.2.2.1, mw_X7_clearCommands.2.2.2, by decide, ⟨by decide, by decide, by decide +kernel⟩⟩
theorem lk_L_158 : LkV RL 158 Y_X8_clearCommands 0 := ⟨tb_at 1205 (by decide +kernel) rfl, mw_X8_clearCommands.1, mw_X8_clearCommands.2.1, mw_X8_clearCommands.2.2.1, mw_X8_clearCommands.2.2.2, by decide, ⟨by decide, by decide, by decide +kernel⟩⟩
theorem lk_L_159 : LkV RL 159 Y_X7_runCommands 0 := ⟨tb_at 358 (by decide +kernel) rfl, mw_X7_runCommands.1, mw_X7_runCommands.2.1, mw_X7_runCommands.2.2.1, mw_X7_runCommands.2.2.2, by decide, ⟨by decide, by decide, by decide +kernel⟩⟩
theorem lk_L_162 : LkV RL 162 Y_X8_runCommands 0 := ⟨tb_at 1209 (by decide +kernel) rfl, mw_X8_runCommands.1, mw_X8_runCommands.2.1, mw_X8_runCommands.2.2.1, mw_X8_runCommands.2.2.2, by decide, ⟨by decide, by decide, by decide +kernel⟩⟩
theorem lk_L_163 : LkW RL 163 Y_L_undo H_L_undo 2 := ⟨tb_at 910 (by decide +kernel) rfl, mwW_L_undo.1, mwW_L_undo.2.1, mwW_L_undo.2.2, by decide, ⟨by decide, by decide, by decide +kernel⟩⟩
theorem lk_L_165 : LkV RL 165 Y_X8_undo 0 := ⟨tb_at 988 (by decide +kernel) rfl, mw_X8_undo.1, mw_X8_undo.2.1, mw_X8_undo.2.2.1, mw_X8_undo.2.2.2, by decide, ⟨by decide, by decide, by decide +kernel⟩⟩
theorem lk_L_166 : LkV RL 166 Y_X7_digest 0 := ⟨tb_at 573 (by decide +kernel) rfl, mw_X7_digest.1, mw_X7_digest.2.1, mw_X7_digest.2.2.1, mw_X7_digest.2.2.2, by decide, ⟨by decide, by decide, by decide +kernel⟩⟩
theorem lk_L_169 : LkV RL 169 Y_X8_digest 0 := ⟨tb_at 1257 (by decide +kernel) rfl, mw_X8_digest.1, mw_X8_digest.2.1, mw_X8_digest.2.2.1, mw_X8_digest.2.2.2, by decide, ⟨by decide, by decide, by decide +kernel⟩⟩
set_option maxRecDepth 100000 in
theorem ok_L_begin (G : Gt) {x y : Int32} {R : Int32} {PP : Mm → Prop} {μ : Mm} (h : EV G 4 Y_X7_begin [rf G 0, .int x, .int y] μ (fun v u => v = some (.int R) ∧ PP u)) : EVc G 9 Y_L_begin H_L_begin [rf G 0, .int x, .int y, rf G 46] μ (fun v u => v = some (.int (nI 0)) ∧ ∃ u0, PP u0 ∧ u = uO u0 R.toInt64) := by
  refine evc_of (by decide) (Nat.le_of_ble_eq_true rfl) ?_
  show Zs G 9 Y_L_begin (1, 6, 0, 0, enW G H_L_begin _) 0 [(0, rf G 0), (1, .int x), (2, .int y), (3, rf G 46)] [] μ
  refine z_aload_n dL_begin_0 rfl ?_
  refine z_iconst (v := nI 0) dL_begin_1 (by decide) ?_
  refine z_aload_n dL_begin_2 rfl ?_
  refine z_iload_n dL_begin_3 rfl ?_
  refine z_iload_n dL_begin_4 rfl ?_
  refine z_cV2g dL_begin_5 lk_L_7 (by decide) ⟨by decide, _, rfl⟩ rfl (Nat.le_of_ble_eq_true rfl) (h) ?_
  rintro v u ⟨rfl, hp⟩
  refine z_i2l dL_begin_8 rfl ?_
  refine z_lastN dL_begin_9 ?_
  refine z_goto (tgt := 17) dL_begin_10 (by decide) ?_
  refine z_iconst (v := nI 0) dL_begin_17 (by decide) ?_
  exact zw_ret (Nat.zero_le _) (Nat.zero_le _) rfl dL_begin_18 ⟨rfl, _, hp, rfl⟩
set_option maxRecDepth 100000 in
theorem th_L_begin_1 (G : Gt) {x y : Int32} {PP : Mm → Prop} {μ : Mm} (h : EVx G 8 Y_X7_begin [rf G 0, .int x, .int y] μ PP "java/lang/IllegalArgumentException") : EVc G 9 Y_L_begin H_L_begin [rf G 0, .int x, .int y, rf G 46] μ (fun v u => v = some (.int (nI 1)) ∧ PP u) := by
  refine evc_of (by decide) (Nat.le_of_ble_eq_true rfl) ?_
  show Zs G 9 Y_L_begin (1, 6, 0, 0, enW G H_L_begin _) 0 [(0, rf G 0), (1, .int x), (2, .int y), (3, rf G 46)] [] μ
  refine z_aload_n dL_begin_0 rfl ?_
  refine z_iconst (v := nI 0) dL_begin_1 (by decide) ?_
  refine z_aload_n dL_begin_2 rfl ?_
  refine z_iload_n dL_begin_3 rfl ?_
  refine z_iload_n dL_begin_4 rfl ?_
  refine z_callX (As := [.int x, .int y]) dL_begin_5 rfl lk_L_7 rfl (by decide) ⟨by decide, _, rfl⟩ rfl (Nat.le_of_ble_eq_true rfl) h [] ⟨0, 10, 13, 13⟩ [] rfl (fun z hz => absurd hz List.not_mem_nil) (by decide) (by decide) (tb_at 769 (by decide +kernel) rfl) (List.mem_of_getElem? (i := 0) rfl) ?_
  intro q u hp
  refine zr_astore (lv' := [(4, _), (0, _), (1, _), (2, _), (3, _)]) dL_begin_13 (by decide) rfl ?_
  refine z_iconst (v := nI 1) dL_begin_15 (by decide) ?_
  exact zw_ret (Nat.le_refl _) (Nat.le_refl _) rfl dL_begin_16 ⟨rfl, hp⟩
set_option maxRecDepth 100000 in
theorem ok_L_add (G : Gt) {x : Int32} {R : Int32} {PP : Mm → Prop} {μ : Mm} (h : EV G 4 Y_X7_add [rf G 0, .int x] μ (fun v u => v = some (.int R) ∧ PP u)) : EVc G 9 Y_L_add H_L_add [rf G 0, .int x, rf G 46] μ (fun v u => v = some (.int (nI 0)) ∧ ∃ u0, PP u0 ∧ u = uO u0 R.toInt64) := by
  refine evc_of (by decide) (Nat.le_of_ble_eq_true rfl) ?_
  show Zs G 9 Y_L_add (1, 6, 0, 0, enW G H_L_add _) 0 [(0, rf G 0), (1, .int x), (2, rf G 46)] [] μ
  refine z_aload_n dL_add_0 rfl ?_
  refine z_iconst (v := nI 0) dL_add_1 (by decide) ?_
  refine z_aload_n dL_add_2 rfl ?_
  refine z_iload_n dL_add_3 rfl ?_
  refine z_cV1g dL_add_4 lk_L_15 (by decide) ⟨by decide, _, rfl⟩ rfl (Nat.le_of_ble_eq_true rfl) (h) ?_
  rintro v u ⟨rfl, hp⟩
  refine z_i2l dL_add_7 rfl ?_
  refine z_lastN dL_add_8 ?_
  refine z_goto (tgt := 18) dL_add_9 (by decide) ?_
  refine z_iconst (v := nI 0) dL_add_18 (by decide) ?_
  exact zw_ret (Nat.zero_le _) (Nat.zero_le _) rfl dL_add_19 ⟨rfl, _, hp, rfl⟩
set_option maxRecDepth 100000 in
theorem th_L_add_1 (G : Gt) {x : Int32} {PP : Mm → Prop} {μ : Mm} (h : EVx G 8 Y_X7_add [rf G 0, .int x] μ PP "java/lang/IndexOutOfBoundsException") : EVc G 9 Y_L_add H_L_add [rf G 0, .int x, rf G 46] μ (fun v u => v = some (.int (nI 1)) ∧ PP u) := by
  refine evc_of (by decide) (Nat.le_of_ble_eq_true rfl) ?_
  show Zs G 9 Y_L_add (1, 6, 0, 0, enW G H_L_add _) 0 [(0, rf G 0), (1, .int x), (2, rf G 46)] [] μ
  refine z_aload_n dL_add_0 rfl ?_
  refine z_iconst (v := nI 0) dL_add_1 (by decide) ?_
  refine z_aload_n dL_add_2 rfl ?_
  refine z_iload_n dL_add_3 rfl ?_
  refine z_callX (As := [.int x]) dL_add_4 rfl lk_L_15 rfl (by decide) ⟨by decide, _, rfl⟩ rfl (Nat.le_of_ble_eq_true rfl) h [] ⟨0, 9, 12, 19⟩ [⟨0, 9, 15, 21⟩] rfl (fun z hz => absurd hz List.not_mem_nil) (by decide) (by decide) (tb_at 778 (by decide +kernel) rfl) (List.mem_of_getElem? (i := 1) rfl) ?_
  intro q u hp
  refine zr_astore_n (lv' := [(3, _), (0, _), (1, _), (2, _)]) dL_add_12 rfl (by decide) rfl ?_
  refine z_iconst (v := nI 1) dL_add_13 (by decide) ?_
  exact zw_ret (Nat.le_refl _) (Nat.le_refl _) rfl dL_add_14 ⟨rfl, hp⟩
set_option maxRecDepth 100000 in
theorem th_L_add_2 (G : Gt) {x : Int32} {PP : Mm → Prop} {μ : Mm} (h : EVx G 8 Y_X7_add [rf G 0, .int x] μ PP "java/lang/IllegalStateException") : EVc G 9 Y_L_add H_L_add [rf G 0, .int x, rf G 46] μ (fun v u => v = some (.int (nI 2)) ∧ PP u) := by
  refine evc_of (by decide) (Nat.le_of_ble_eq_true rfl) ?_
  show Zs G 9 Y_L_add (1, 6, 0, 0, enW G H_L_add _) 0 [(0, rf G 0), (1, .int x), (2, rf G 46)] [] μ
  refine z_aload_n dL_add_0 rfl ?_
  refine z_iconst (v := nI 0) dL_add_1 (by decide) ?_
  refine z_aload_n dL_add_2 rfl ?_
  refine z_iload_n dL_add_3 rfl ?_
  refine z_callX (As := [.int x]) dL_add_4 rfl lk_L_15 rfl (by decide) ⟨by decide, _, rfl⟩ rfl (Nat.le_of_ble_eq_true rfl) h [⟨0, 9, 12, 19⟩] ⟨0, 9, 15, 21⟩ [] rfl (fun z hz => by rw [List.mem_singleton.mp hz]; exact Or.inr ⟨by decide, "java/lang/IndexOutOfBoundsException", tb_at 778 (by decide +kernel) rfl, List.mem_of_getElem? (i := 0) rfl⟩) (by decide) (by decide) (tb_at 779 (by decide +kernel) rfl) (List.mem_of_getElem? (i := 2) rfl) ?_
  intro q u hp
  refine zr_astore_n (lv' := [(3, _), (0, _), (1, _), (2, _)]) dL_add_15 rfl (by decide) rfl ?_
  refine z_iconst (v := nI 2) dL_add_16 (by decide) ?_
  exact zw_ret (Nat.le_refl _) (Nat.le_refl _) rfl dL_add_17 ⟨rfl, hp⟩
set_option maxRecDepth 100000 in
theorem ok_L_removeAt (G : Gt) {x : Int32} {R : Int32} {PP : Mm → Prop} {μ : Mm} (h : EV G 4 Y_X7_removeAt [rf G 0, .int x] μ (fun v u => v = some (.int R) ∧ PP u)) : EVc G 9 Y_L_removeAt H_L_removeAt [rf G 0, .int x, rf G 46] μ (fun v u => v = some (.int (nI 0)) ∧ ∃ u0, PP u0 ∧ u = uO u0 R.toInt64) := by
  refine evc_of (by decide) (Nat.le_of_ble_eq_true rfl) ?_
  show Zs G 9 Y_L_removeAt (1, 6, 0, 0, enW G H_L_removeAt _) 0 [(0, rf G 0), (1, .int x), (2, rf G 46)] [] μ
  refine z_aload_n dL_removeAt_0 rfl ?_
  refine z_iconst (v := nI 0) dL_removeAt_1 (by decide) ?_
  refine z_aload_n dL_removeAt_2 rfl ?_
  refine z_iload_n dL_removeAt_3 rfl ?_
  refine z_cV1g dL_removeAt_4 lk_L_23 (by decide) ⟨by decide, _, rfl⟩ rfl (Nat.le_of_ble_eq_true rfl) (h) ?_
  rintro v u ⟨rfl, hp⟩
  refine z_i2l dL_removeAt_7 rfl ?_
  refine z_lastN dL_removeAt_8 ?_
  refine z_goto (tgt := 15) dL_removeAt_9 (by decide) ?_
  refine z_iconst (v := nI 0) dL_removeAt_15 (by decide) ?_
  exact zw_ret (Nat.zero_le _) (Nat.zero_le _) rfl dL_removeAt_16 ⟨rfl, _, hp, rfl⟩
set_option maxRecDepth 100000 in
theorem th_L_removeAt_1 (G : Gt) {x : Int32} {PP : Mm → Prop} {μ : Mm} (h : EVx G 8 Y_X7_removeAt [rf G 0, .int x] μ PP "java/lang/IndexOutOfBoundsException") : EVc G 9 Y_L_removeAt H_L_removeAt [rf G 0, .int x, rf G 46] μ (fun v u => v = some (.int (nI 1)) ∧ PP u) := by
  refine evc_of (by decide) (Nat.le_of_ble_eq_true rfl) ?_
  show Zs G 9 Y_L_removeAt (1, 6, 0, 0, enW G H_L_removeAt _) 0 [(0, rf G 0), (1, .int x), (2, rf G 46)] [] μ
  refine z_aload_n dL_removeAt_0 rfl ?_
  refine z_iconst (v := nI 0) dL_removeAt_1 (by decide) ?_
  refine z_aload_n dL_removeAt_2 rfl ?_
  refine z_iload_n dL_removeAt_3 rfl ?_
  refine z_callX (As := [.int x]) dL_removeAt_4 rfl lk_L_23 rfl (by decide) ⟨by decide, _, rfl⟩ rfl (Nat.le_of_ble_eq_true rfl) h [] ⟨0, 9, 12, 19⟩ [] rfl (fun z hz => absurd hz List.not_mem_nil) (by decide) (by decide) (tb_at 778 (by decide +kernel) rfl) (List.mem_of_getElem? (i := 1) rfl) ?_
  intro q u hp
  refine zr_astore_n (lv' := [(3, _), (0, _), (1, _), (2, _)]) dL_removeAt_12 rfl (by decide) rfl ?_
  refine z_iconst (v := nI 1) dL_removeAt_13 (by decide) ?_
  exact zw_ret (Nat.le_refl _) (Nat.le_refl _) rfl dL_removeAt_14 ⟨rfl, hp⟩
set_option maxRecDepth 100000 in
theorem ok_L_lay (G : Gt) {x y : Int32} {R : Int32} {PP : Mm → Prop} {μ : Mm} (h : EV G 4 Y_X7_lay [rf G 0, .int x, .int y] μ (fun v u => v = some (.int R) ∧ PP u)) : EVc G 9 Y_L_lay H_L_lay [rf G 0, .int x, .int y, rf G 46] μ (fun v u => v = some (.int (nI 0)) ∧ ∃ u0, PP u0 ∧ u = uO u0 R.toInt64) := by
  refine evc_of (by decide) (Nat.le_of_ble_eq_true rfl) ?_
  show Zs G 9 Y_L_lay (1, 6, 0, 0, enW G H_L_lay _) 0 [(0, rf G 0), (1, .int x), (2, .int y), (3, rf G 46)] [] μ
  refine z_aload_n dL_lay_0 rfl ?_
  refine z_iconst (v := nI 0) dL_lay_1 (by decide) ?_
  refine z_aload_n dL_lay_2 rfl ?_
  refine z_iload_n dL_lay_3 rfl ?_
  refine z_iload_n dL_lay_4 rfl ?_
  refine z_cV2g dL_lay_5 lk_L_26 (by decide) ⟨by decide, _, rfl⟩ rfl (Nat.le_of_ble_eq_true rfl) (h) ?_
  rintro v u ⟨rfl, hp⟩
  refine z_i2l dL_lay_8 rfl ?_
  refine z_lastN dL_lay_9 ?_
  refine z_goto (tgt := 21) dL_lay_10 (by decide) ?_
  refine z_iconst (v := nI 0) dL_lay_21 (by decide) ?_
  exact zw_ret (Nat.zero_le _) (Nat.zero_le _) rfl dL_lay_22 ⟨rfl, _, hp, rfl⟩
set_option maxRecDepth 100000 in
theorem th_L_lay_1 (G : Gt) {x y : Int32} {PP : Mm → Prop} {μ : Mm} (h : EVx G 8 Y_X7_lay [rf G 0, .int x, .int y] μ PP "java/lang/IndexOutOfBoundsException") : EVc G 9 Y_L_lay H_L_lay [rf G 0, .int x, .int y, rf G 46] μ (fun v u => v = some (.int (nI 1)) ∧ PP u) := by
  refine evc_of (by decide) (Nat.le_of_ble_eq_true rfl) ?_
  show Zs G 9 Y_L_lay (1, 6, 0, 0, enW G H_L_lay _) 0 [(0, rf G 0), (1, .int x), (2, .int y), (3, rf G 46)] [] μ
  refine z_aload_n dL_lay_0 rfl ?_
  refine z_iconst (v := nI 0) dL_lay_1 (by decide) ?_
  refine z_aload_n dL_lay_2 rfl ?_
  refine z_iload_n dL_lay_3 rfl ?_
  refine z_iload_n dL_lay_4 rfl ?_
  refine z_callX (As := [.int x, .int y]) dL_lay_5 rfl lk_L_26 rfl (by decide) ⟨by decide, _, rfl⟩ rfl (Nat.le_of_ble_eq_true rfl) h [] ⟨0, 10, 13, 19⟩ [⟨0, 10, 17, 13⟩] rfl (fun z hz => absurd hz List.not_mem_nil) (by decide) (by decide) (tb_at 778 (by decide +kernel) rfl) (List.mem_of_getElem? (i := 1) rfl) ?_
  intro q u hp
  refine zr_astore (lv' := [(4, _), (0, _), (1, _), (2, _), (3, _)]) dL_lay_13 (by decide) rfl ?_
  refine z_iconst (v := nI 1) dL_lay_15 (by decide) ?_
  exact zw_ret (Nat.le_refl _) (Nat.le_refl _) rfl dL_lay_16 ⟨rfl, hp⟩
set_option maxRecDepth 100000 in
theorem th_L_lay_2 (G : Gt) {x y : Int32} {PP : Mm → Prop} {μ : Mm} (h : EVx G 8 Y_X7_lay [rf G 0, .int x, .int y] μ PP "java/lang/IllegalArgumentException") : EVc G 9 Y_L_lay H_L_lay [rf G 0, .int x, .int y, rf G 46] μ (fun v u => v = some (.int (nI 2)) ∧ PP u) := by
  refine evc_of (by decide) (Nat.le_of_ble_eq_true rfl) ?_
  show Zs G 9 Y_L_lay (1, 6, 0, 0, enW G H_L_lay _) 0 [(0, rf G 0), (1, .int x), (2, .int y), (3, rf G 46)] [] μ
  refine z_aload_n dL_lay_0 rfl ?_
  refine z_iconst (v := nI 0) dL_lay_1 (by decide) ?_
  refine z_aload_n dL_lay_2 rfl ?_
  refine z_iload_n dL_lay_3 rfl ?_
  refine z_iload_n dL_lay_4 rfl ?_
  refine z_callX (As := [.int x, .int y]) dL_lay_5 rfl lk_L_26 rfl (by decide) ⟨by decide, _, rfl⟩ rfl (Nat.le_of_ble_eq_true rfl) h [⟨0, 10, 13, 19⟩] ⟨0, 10, 17, 13⟩ [] rfl (fun z hz => by rw [List.mem_singleton.mp hz]; exact Or.inr ⟨by decide, "java/lang/IndexOutOfBoundsException", tb_at 778 (by decide +kernel) rfl, List.mem_of_getElem? (i := 1) rfl⟩) (by decide) (by decide) (tb_at 769 (by decide +kernel) rfl) (List.mem_of_getElem? (i := 0) rfl) ?_
  intro q u hp
  refine zr_astore (lv' := [(4, _), (0, _), (1, _), (2, _), (3, _)]) dL_lay_17 (by decide) rfl ?_
  refine z_iconst (v := nI 2) dL_lay_19 (by decide) ?_
  exact zw_ret (Nat.le_refl _) (Nat.le_refl _) rfl dL_lay_20 ⟨rfl, hp⟩
set_option maxRecDepth 100000 in
theorem ok_L_laySplit (G : Gt) {R : Int32} {PP : Mm → Prop} {μ : Mm} (h : EV G 6 Y_X7_laySplit [rf G 0] μ (fun v u => v = some (.int R) ∧ PP u)) : EVc G 9 Y_L_laySplit H_L_laySplit [rf G 0, rf G 46] μ (fun v u => v = some (.int (nI 0)) ∧ ∃ u0, PP u0 ∧ u = uO u0 R.toInt64) := by
  refine evc_of (by decide) (Nat.le_of_ble_eq_true rfl) ?_
  show Zs G 9 Y_L_laySplit (1, 6, 0, 0, enW G H_L_laySplit _) 0 [(0, rf G 0), (1, rf G 46)] [] μ
  refine z_aload_n dL_laySplit_0 rfl ?_
  refine z_iconst (v := nI 0) dL_laySplit_1 (by decide) ?_
  refine z_aload_n dL_laySplit_2 rfl ?_
  refine z_cV0g dL_laySplit_3 lk_L_29 (by decide) ⟨by decide, _, rfl⟩ rfl (Nat.le_of_ble_eq_true rfl) (h) ?_
  rintro v u ⟨rfl, hp⟩
  refine z_i2l dL_laySplit_6 rfl ?_
  refine z_lastN dL_laySplit_7 ?_
  refine z_goto (tgt := 14) dL_laySplit_8 (by decide) ?_
  refine z_iconst (v := nI 0) dL_laySplit_14 (by decide) ?_
  exact zw_ret (Nat.zero_le _) (Nat.zero_le _) rfl dL_laySplit_15 ⟨rfl, _, hp, rfl⟩
set_option maxRecDepth 100000 in
theorem th_L_laySplit_1 (G : Gt) {PP : Mm → Prop} {μ : Mm} (h : EVx G 8 Y_X7_laySplit [rf G 0] μ PP "java/lang/IllegalStateException") : EVc G 9 Y_L_laySplit H_L_laySplit [rf G 0, rf G 46] μ (fun v u => v = some (.int (nI 1)) ∧ PP u) := by
  refine evc_of (by decide) (Nat.le_of_ble_eq_true rfl) ?_
  show Zs G 9 Y_L_laySplit (1, 6, 0, 0, enW G H_L_laySplit _) 0 [(0, rf G 0), (1, rf G 46)] [] μ
  refine z_aload_n dL_laySplit_0 rfl ?_
  refine z_iconst (v := nI 0) dL_laySplit_1 (by decide) ?_
  refine z_aload_n dL_laySplit_2 rfl ?_
  refine z_callX (As := []) dL_laySplit_3 rfl lk_L_29 rfl (by decide) ⟨by decide, _, rfl⟩ rfl (Nat.le_of_ble_eq_true rfl) h [] ⟨0, 8, 11, 21⟩ [] rfl (fun z hz => absurd hz List.not_mem_nil) (by decide) (by decide) (tb_at 779 (by decide +kernel) rfl) (List.mem_of_getElem? (i := 2) rfl) ?_
  intro q u hp
  refine zr_astore_n (lv' := [(2, _), (0, _), (1, _)]) dL_laySplit_11 rfl (by decide) rfl ?_
  refine z_iconst (v := nI 1) dL_laySplit_12 (by decide) ?_
  exact zw_ret (Nat.le_refl _) (Nat.le_refl _) rfl dL_laySplit_13 ⟨rfl, hp⟩
set_option maxRecDepth 100000 in
theorem ok_L_sum (G : Gt) {x y : Int32} {R : Int32} {PP : Mm → Prop} {μ : Mm} (h : EV G 2 Y_X7_sum [rf G 0, .int x, .int y] μ (fun v u => v = some (.int R) ∧ PP u)) : EVc G 9 Y_L_sum H_L_sum [rf G 0, .int x, .int y, rf G 46] μ (fun v u => v = some (.int (nI 0)) ∧ ∃ u0, PP u0 ∧ u = uO u0 R.toInt64) := by
  refine evc_of (by decide) (Nat.le_of_ble_eq_true rfl) ?_
  show Zs G 9 Y_L_sum (1, 6, 0, 0, enW G H_L_sum _) 0 [(0, rf G 0), (1, .int x), (2, .int y), (3, rf G 46)] [] μ
  refine z_aload_n dL_sum_0 rfl ?_
  refine z_iconst (v := nI 0) dL_sum_1 (by decide) ?_
  refine z_aload_n dL_sum_2 rfl ?_
  refine z_iload_n dL_sum_3 rfl ?_
  refine z_iload_n dL_sum_4 rfl ?_
  refine z_cV2g dL_sum_5 lk_L_33 (by decide) ⟨by decide, _, rfl⟩ rfl (Nat.le_of_ble_eq_true rfl) (h) ?_
  rintro v u ⟨rfl, hp⟩
  refine z_i2l dL_sum_8 rfl ?_
  refine z_lastN dL_sum_9 ?_
  refine z_goto (tgt := 17) dL_sum_10 (by decide) ?_
  refine z_iconst (v := nI 0) dL_sum_17 (by decide) ?_
  exact zw_ret (Nat.zero_le _) (Nat.zero_le _) rfl dL_sum_18 ⟨rfl, _, hp, rfl⟩
set_option maxRecDepth 100000 in
theorem th_L_sum_1 (G : Gt) {x y : Int32} {PP : Mm → Prop} {μ : Mm} (h : EVx G 8 Y_X7_sum [rf G 0, .int x, .int y] μ PP "java/lang/IndexOutOfBoundsException") : EVc G 9 Y_L_sum H_L_sum [rf G 0, .int x, .int y, rf G 46] μ (fun v u => v = some (.int (nI 1)) ∧ PP u) := by
  refine evc_of (by decide) (Nat.le_of_ble_eq_true rfl) ?_
  show Zs G 9 Y_L_sum (1, 6, 0, 0, enW G H_L_sum _) 0 [(0, rf G 0), (1, .int x), (2, .int y), (3, rf G 46)] [] μ
  refine z_aload_n dL_sum_0 rfl ?_
  refine z_iconst (v := nI 0) dL_sum_1 (by decide) ?_
  refine z_aload_n dL_sum_2 rfl ?_
  refine z_iload_n dL_sum_3 rfl ?_
  refine z_iload_n dL_sum_4 rfl ?_
  refine z_callX (As := [.int x, .int y]) dL_sum_5 rfl lk_L_33 rfl (by decide) ⟨by decide, _, rfl⟩ rfl (Nat.le_of_ble_eq_true rfl) h [] ⟨0, 10, 13, 19⟩ [] rfl (fun z hz => absurd hz List.not_mem_nil) (by decide) (by decide) (tb_at 778 (by decide +kernel) rfl) (List.mem_of_getElem? (i := 1) rfl) ?_
  intro q u hp
  refine zr_astore (lv' := [(4, _), (0, _), (1, _), (2, _), (3, _)]) dL_sum_13 (by decide) rfl ?_
  refine z_iconst (v := nI 1) dL_sum_15 (by decide) ?_
  exact zw_ret (Nat.le_refl _) (Nat.le_refl _) rfl dL_sum_16 ⟨rfl, hp⟩
set_option maxRecDepth 100000 in
theorem ok_L_element (G : Gt) {x y : Int32} {R : Int32} {PP : Mm → Prop} {μ : Mm} (h : EV G 4 Y_X7_element [rf G 0, .int x, .int y] μ (fun v u => v = some (.int R) ∧ PP u)) : EVc G 9 Y_L_element H_L_element [rf G 0, .int x, .int y, rf G 46] μ (fun v u => v = some (.int (nI 0)) ∧ ∃ u0, PP u0 ∧ u = uO u0 R.toInt64) := by
  refine evc_of (by decide) (Nat.le_of_ble_eq_true rfl) ?_
  show Zs G 9 Y_L_element (1, 6, 0, 0, enW G H_L_element _) 0 [(0, rf G 0), (1, .int x), (2, .int y), (3, rf G 46)] [] μ
  refine z_aload_n dL_element_0 rfl ?_
  refine z_iconst (v := nI 0) dL_element_1 (by decide) ?_
  refine z_aload_n dL_element_2 rfl ?_
  refine z_iload_n dL_element_3 rfl ?_
  refine z_iload_n dL_element_4 rfl ?_
  refine z_cV2g dL_element_5 lk_L_36 (by decide) ⟨by decide, _, rfl⟩ rfl (Nat.le_of_ble_eq_true rfl) (h) ?_
  rintro v u ⟨rfl, hp⟩
  refine z_i2l dL_element_8 rfl ?_
  refine z_lastN dL_element_9 ?_
  refine z_goto (tgt := 21) dL_element_10 (by decide) ?_
  refine z_iconst (v := nI 0) dL_element_21 (by decide) ?_
  exact zw_ret (Nat.zero_le _) (Nat.zero_le _) rfl dL_element_22 ⟨rfl, _, hp, rfl⟩
set_option maxRecDepth 100000 in
theorem th_L_element_1 (G : Gt) {x y : Int32} {PP : Mm → Prop} {μ : Mm} (h : EVx G 8 Y_X7_element [rf G 0, .int x, .int y] μ PP "java/lang/IndexOutOfBoundsException") : EVc G 9 Y_L_element H_L_element [rf G 0, .int x, .int y, rf G 46] μ (fun v u => v = some (.int (nI 1)) ∧ PP u) := by
  refine evc_of (by decide) (Nat.le_of_ble_eq_true rfl) ?_
  show Zs G 9 Y_L_element (1, 6, 0, 0, enW G H_L_element _) 0 [(0, rf G 0), (1, .int x), (2, .int y), (3, rf G 46)] [] μ
  refine z_aload_n dL_element_0 rfl ?_
  refine z_iconst (v := nI 0) dL_element_1 (by decide) ?_
  refine z_aload_n dL_element_2 rfl ?_
  refine z_iload_n dL_element_3 rfl ?_
  refine z_iload_n dL_element_4 rfl ?_
  refine z_callX (As := [.int x, .int y]) dL_element_5 rfl lk_L_36 rfl (by decide) ⟨by decide, _, rfl⟩ rfl (Nat.le_of_ble_eq_true rfl) h [] ⟨0, 10, 13, 19⟩ [⟨0, 10, 17, 13⟩] rfl (fun z hz => absurd hz List.not_mem_nil) (by decide) (by decide) (tb_at 778 (by decide +kernel) rfl) (List.mem_of_getElem? (i := 1) rfl) ?_
  intro q u hp
  refine zr_astore (lv' := [(4, _), (0, _), (1, _), (2, _), (3, _)]) dL_element_13 (by decide) rfl ?_
  refine z_iconst (v := nI 1) dL_element_15 (by decide) ?_
  exact zw_ret (Nat.le_refl _) (Nat.le_refl _) rfl dL_element_16 ⟨rfl, hp⟩
set_option maxRecDepth 100000 in
theorem th_L_element_2 (G : Gt) {x y : Int32} {PP : Mm → Prop} {μ : Mm} (h : EVx G 8 Y_X7_element [rf G 0, .int x, .int y] μ PP "java/lang/IllegalArgumentException") : EVc G 9 Y_L_element H_L_element [rf G 0, .int x, .int y, rf G 46] μ (fun v u => v = some (.int (nI 2)) ∧ PP u) := by
  refine evc_of (by decide) (Nat.le_of_ble_eq_true rfl) ?_
  show Zs G 9 Y_L_element (1, 6, 0, 0, enW G H_L_element _) 0 [(0, rf G 0), (1, .int x), (2, .int y), (3, rf G 46)] [] μ
  refine z_aload_n dL_element_0 rfl ?_
  refine z_iconst (v := nI 0) dL_element_1 (by decide) ?_
  refine z_aload_n dL_element_2 rfl ?_
  refine z_iload_n dL_element_3 rfl ?_
  refine z_iload_n dL_element_4 rfl ?_
  refine z_callX (As := [.int x, .int y]) dL_element_5 rfl lk_L_36 rfl (by decide) ⟨by decide, _, rfl⟩ rfl (Nat.le_of_ble_eq_true rfl) h [⟨0, 10, 13, 19⟩] ⟨0, 10, 17, 13⟩ [] rfl (fun z hz => by rw [List.mem_singleton.mp hz]; exact Or.inr ⟨by decide, "java/lang/IndexOutOfBoundsException", tb_at 778 (by decide +kernel) rfl, List.mem_of_getElem? (i := 1) rfl⟩) (by decide) (by decide) (tb_at 769 (by decide +kernel) rfl) (List.mem_of_getElem? (i := 0) rfl) ?_
  intro q u hp
  refine zr_astore (lv' := [(4, _), (0, _), (1, _), (2, _), (3, _)]) dL_element_17 (by decide) rfl ?_
  refine z_iconst (v := nI 2) dL_element_19 (by decide) ?_
  exact zw_ret (Nat.le_refl _) (Nat.le_refl _) rfl dL_element_20 ⟨rfl, hp⟩
set_option maxRecDepth 100000 in
theorem ok_L_at (G : Gt) {x y : Int32} {R : Int32} {PP : Mm → Prop} {μ : Mm} (h : EV G 5 Y_X7_at [rf G 0, .int x, .int y] μ (fun v u => v = some (.int R) ∧ PP u)) : EVc G 9 Y_L_at H_L_at [rf G 0, .int x, .int y, rf G 46] μ (fun v u => v = some (.int (nI 0)) ∧ ∃ u0, PP u0 ∧ u = uO u0 R.toInt64) := by
  refine evc_of (by decide) (Nat.le_of_ble_eq_true rfl) ?_
  show Zs G 9 Y_L_at (1, 6, 0, 0, enW G H_L_at _) 0 [(0, rf G 0), (1, .int x), (2, .int y), (3, rf G 46)] [] μ
  refine z_aload_n dL_at_0 rfl ?_
  refine z_iconst (v := nI 0) dL_at_1 (by decide) ?_
  refine z_aload_n dL_at_2 rfl ?_
  refine z_iload_n dL_at_3 rfl ?_
  refine z_iload_n dL_at_4 rfl ?_
  refine z_cV2g dL_at_5 lk_L_39 (by decide) ⟨by decide, _, rfl⟩ rfl (Nat.le_of_ble_eq_true rfl) (h) ?_
  rintro v u ⟨rfl, hp⟩
  refine z_i2l dL_at_8 rfl ?_
  refine z_lastN dL_at_9 ?_
  refine z_goto (tgt := 21) dL_at_10 (by decide) ?_
  refine z_iconst (v := nI 0) dL_at_21 (by decide) ?_
  exact zw_ret (Nat.zero_le _) (Nat.zero_le _) rfl dL_at_22 ⟨rfl, _, hp, rfl⟩
set_option maxRecDepth 100000 in
theorem th_L_at_1 (G : Gt) {x y : Int32} {PP : Mm → Prop} {μ : Mm} (h : EVx G 8 Y_X7_at [rf G 0, .int x, .int y] μ PP "java/lang/IndexOutOfBoundsException") : EVc G 9 Y_L_at H_L_at [rf G 0, .int x, .int y, rf G 46] μ (fun v u => v = some (.int (nI 1)) ∧ PP u) := by
  refine evc_of (by decide) (Nat.le_of_ble_eq_true rfl) ?_
  show Zs G 9 Y_L_at (1, 6, 0, 0, enW G H_L_at _) 0 [(0, rf G 0), (1, .int x), (2, .int y), (3, rf G 46)] [] μ
  refine z_aload_n dL_at_0 rfl ?_
  refine z_iconst (v := nI 0) dL_at_1 (by decide) ?_
  refine z_aload_n dL_at_2 rfl ?_
  refine z_iload_n dL_at_3 rfl ?_
  refine z_iload_n dL_at_4 rfl ?_
  refine z_callX (As := [.int x, .int y]) dL_at_5 rfl lk_L_39 rfl (by decide) ⟨by decide, _, rfl⟩ rfl (Nat.le_of_ble_eq_true rfl) h [] ⟨0, 10, 13, 19⟩ [⟨0, 10, 17, 13⟩] rfl (fun z hz => absurd hz List.not_mem_nil) (by decide) (by decide) (tb_at 778 (by decide +kernel) rfl) (List.mem_of_getElem? (i := 1) rfl) ?_
  intro q u hp
  refine zr_astore (lv' := [(4, _), (0, _), (1, _), (2, _), (3, _)]) dL_at_13 (by decide) rfl ?_
  refine z_iconst (v := nI 1) dL_at_15 (by decide) ?_
  exact zw_ret (Nat.le_refl _) (Nat.le_refl _) rfl dL_at_16 ⟨rfl, hp⟩
set_option maxRecDepth 100000 in
theorem th_L_at_2 (G : Gt) {x y : Int32} {PP : Mm → Prop} {μ : Mm} (h : EVx G 8 Y_X7_at [rf G 0, .int x, .int y] μ PP "java/lang/IllegalArgumentException") : EVc G 9 Y_L_at H_L_at [rf G 0, .int x, .int y, rf G 46] μ (fun v u => v = some (.int (nI 2)) ∧ PP u) := by
  refine evc_of (by decide) (Nat.le_of_ble_eq_true rfl) ?_
  show Zs G 9 Y_L_at (1, 6, 0, 0, enW G H_L_at _) 0 [(0, rf G 0), (1, .int x), (2, .int y), (3, rf G 46)] [] μ
  refine z_aload_n dL_at_0 rfl ?_
  refine z_iconst (v := nI 0) dL_at_1 (by decide) ?_
  refine z_aload_n dL_at_2 rfl ?_
  refine z_iload_n dL_at_3 rfl ?_
  refine z_iload_n dL_at_4 rfl ?_
  refine z_callX (As := [.int x, .int y]) dL_at_5 rfl lk_L_39 rfl (by decide) ⟨by decide, _, rfl⟩ rfl (Nat.le_of_ble_eq_true rfl) h [⟨0, 10, 13, 19⟩] ⟨0, 10, 17, 13⟩ [] rfl (fun z hz => by rw [List.mem_singleton.mp hz]; exact Or.inr ⟨by decide, "java/lang/IndexOutOfBoundsException", tb_at 778 (by decide +kernel) rfl, List.mem_of_getElem? (i := 1) rfl⟩) (by decide) (by decide) (tb_at 769 (by decide +kernel) rfl) (List.mem_of_getElem? (i := 0) rfl) ?_
  intro q u hp
  refine zr_astore (lv' := [(4, _), (0, _), (1, _), (2, _), (3, _)]) dL_at_17 (by decide) rfl ?_
  refine z_iconst (v := nI 2) dL_at_19 (by decide) ?_
  exact zw_ret (Nat.le_refl _) (Nat.le_refl _) rfl dL_at_20 ⟨rfl, hp⟩
set_option maxRecDepth 100000 in
theorem ok_L_set (G : Gt) {x y : Int32} {R : Int32} {PP : Mm → Prop} {μ : Mm} (h : EV G 5 Y_X7_set [rf G 0, .int x, .int y] μ (fun v u => v = some (.int R) ∧ PP u)) : EVc G 9 Y_L_set H_L_set [rf G 0, .int x, .int y, rf G 46] μ (fun v u => v = some (.int (nI 0)) ∧ ∃ u0, PP u0 ∧ u = uO u0 R.toInt64) := by
  refine evc_of (by decide) (Nat.le_of_ble_eq_true rfl) ?_
  show Zs G 9 Y_L_set (1, 6, 0, 0, enW G H_L_set _) 0 [(0, rf G 0), (1, .int x), (2, .int y), (3, rf G 46)] [] μ
  refine z_aload_n dL_set_0 rfl ?_
  refine z_iconst (v := nI 0) dL_set_1 (by decide) ?_
  refine z_aload_n dL_set_2 rfl ?_
  refine z_iload_n dL_set_3 rfl ?_
  refine z_iload_n dL_set_4 rfl ?_
  refine z_cV2g dL_set_5 lk_L_42 (by decide) ⟨by decide, _, rfl⟩ rfl (Nat.le_of_ble_eq_true rfl) (h) ?_
  rintro v u ⟨rfl, hp⟩
  refine z_i2l dL_set_8 rfl ?_
  refine z_lastN dL_set_9 ?_
  refine z_goto (tgt := 17) dL_set_10 (by decide) ?_
  refine z_iconst (v := nI 0) dL_set_17 (by decide) ?_
  exact zw_ret (Nat.zero_le _) (Nat.zero_le _) rfl dL_set_18 ⟨rfl, _, hp, rfl⟩
set_option maxRecDepth 100000 in
theorem th_L_set_1 (G : Gt) {x y : Int32} {PP : Mm → Prop} {μ : Mm} (h : EVx G 8 Y_X7_set [rf G 0, .int x, .int y] μ PP "java/lang/IllegalArgumentException") : EVc G 9 Y_L_set H_L_set [rf G 0, .int x, .int y, rf G 46] μ (fun v u => v = some (.int (nI 1)) ∧ PP u) := by
  refine evc_of (by decide) (Nat.le_of_ble_eq_true rfl) ?_
  show Zs G 9 Y_L_set (1, 6, 0, 0, enW G H_L_set _) 0 [(0, rf G 0), (1, .int x), (2, .int y), (3, rf G 46)] [] μ
  refine z_aload_n dL_set_0 rfl ?_
  refine z_iconst (v := nI 0) dL_set_1 (by decide) ?_
  refine z_aload_n dL_set_2 rfl ?_
  refine z_iload_n dL_set_3 rfl ?_
  refine z_iload_n dL_set_4 rfl ?_
  refine z_callX (As := [.int x, .int y]) dL_set_5 rfl lk_L_42 rfl (by decide) ⟨by decide, _, rfl⟩ rfl (Nat.le_of_ble_eq_true rfl) h [] ⟨0, 10, 13, 13⟩ [] rfl (fun z hz => absurd hz List.not_mem_nil) (by decide) (by decide) (tb_at 769 (by decide +kernel) rfl) (List.mem_of_getElem? (i := 0) rfl) ?_
  intro q u hp
  refine zr_astore (lv' := [(4, _), (0, _), (1, _), (2, _), (3, _)]) dL_set_13 (by decide) rfl ?_
  refine z_iconst (v := nI 1) dL_set_15 (by decide) ?_
  exact zw_ret (Nat.le_refl _) (Nat.le_refl _) rfl dL_set_16 ⟨rfl, hp⟩
set_option maxRecDepth 100000 in
theorem ok_L_block (G : Gt) {x : Int32} {R : Int32} {PP : Mm → Prop} {μ : Mm} (h : EV G 5 Y_X7_block [rf G 0, .int x] μ (fun v u => v = some (.int R) ∧ PP u)) : EVc G 9 Y_L_block H_L_block [rf G 0, .int x, rf G 46] μ (fun v u => v = some (.int (nI 0)) ∧ ∃ u0, PP u0 ∧ u = uO u0 R.toInt64) := by
  refine evc_of (by decide) (Nat.le_of_ble_eq_true rfl) ?_
  show Zs G 9 Y_L_block (1, 6, 0, 0, enW G H_L_block _) 0 [(0, rf G 0), (1, .int x), (2, rf G 46)] [] μ
  refine z_aload_n dL_block_0 rfl ?_
  refine z_iconst (v := nI 0) dL_block_1 (by decide) ?_
  refine z_aload_n dL_block_2 rfl ?_
  refine z_iload_n dL_block_3 rfl ?_
  refine z_cV1g dL_block_4 lk_L_45 (by decide) ⟨by decide, _, rfl⟩ rfl (Nat.le_of_ble_eq_true rfl) (h) ?_
  rintro v u ⟨rfl, hp⟩
  refine z_i2l dL_block_7 rfl ?_
  refine z_lastN dL_block_8 ?_
  refine z_goto (tgt := 15) dL_block_9 (by decide) ?_
  refine z_iconst (v := nI 0) dL_block_15 (by decide) ?_
  exact zw_ret (Nat.zero_le _) (Nat.zero_le _) rfl dL_block_16 ⟨rfl, _, hp, rfl⟩
set_option maxRecDepth 100000 in
theorem th_L_block_1 (G : Gt) {x : Int32} {PP : Mm → Prop} {μ : Mm} (h : EVx G 8 Y_X7_block [rf G 0, .int x] μ PP "java/lang/IllegalArgumentException") : EVc G 9 Y_L_block H_L_block [rf G 0, .int x, rf G 46] μ (fun v u => v = some (.int (nI 1)) ∧ PP u) := by
  refine evc_of (by decide) (Nat.le_of_ble_eq_true rfl) ?_
  show Zs G 9 Y_L_block (1, 6, 0, 0, enW G H_L_block _) 0 [(0, rf G 0), (1, .int x), (2, rf G 46)] [] μ
  refine z_aload_n dL_block_0 rfl ?_
  refine z_iconst (v := nI 0) dL_block_1 (by decide) ?_
  refine z_aload_n dL_block_2 rfl ?_
  refine z_iload_n dL_block_3 rfl ?_
  refine z_callX (As := [.int x]) dL_block_4 rfl lk_L_45 rfl (by decide) ⟨by decide, _, rfl⟩ rfl (Nat.le_of_ble_eq_true rfl) h [] ⟨0, 9, 12, 13⟩ [] rfl (fun z hz => absurd hz List.not_mem_nil) (by decide) (by decide) (tb_at 769 (by decide +kernel) rfl) (List.mem_of_getElem? (i := 0) rfl) ?_
  intro q u hp
  refine zr_astore_n (lv' := [(3, _), (0, _), (1, _), (2, _)]) dL_block_12 rfl (by decide) rfl ?_
  refine z_iconst (v := nI 1) dL_block_13 (by decide) ?_
  exact zw_ret (Nat.le_refl _) (Nat.le_refl _) rfl dL_block_14 ⟨rfl, hp⟩
set_option maxRecDepth 100000 in
theorem ok_L_part (G : Gt) {x y : Int32} {R : Int32} {PP : Mm → Prop} {μ : Mm} (h : EV G 5 Y_X7_part [rf G 0, .int x, .int y] μ (fun v u => v = some (.int R) ∧ PP u)) : EVc G 9 Y_L_part H_L_part [rf G 0, .int x, .int y, rf G 46] μ (fun v u => v = some (.int (nI 0)) ∧ ∃ u0, PP u0 ∧ u = uO u0 R.toInt64) := by
  refine evc_of (by decide) (Nat.le_of_ble_eq_true rfl) ?_
  show Zs G 9 Y_L_part (1, 6, 0, 0, enW G H_L_part _) 0 [(0, rf G 0), (1, .int x), (2, .int y), (3, rf G 46)] [] μ
  refine z_aload_n dL_part_0 rfl ?_
  refine z_iconst (v := nI 0) dL_part_1 (by decide) ?_
  refine z_aload_n dL_part_2 rfl ?_
  refine z_iload_n dL_part_3 rfl ?_
  refine z_iload_n dL_part_4 rfl ?_
  refine z_cV2g dL_part_5 lk_L_48 (by decide) ⟨by decide, _, rfl⟩ rfl (Nat.le_of_ble_eq_true rfl) (h) ?_
  rintro v u ⟨rfl, hp⟩
  refine z_i2l dL_part_8 rfl ?_
  refine z_lastN dL_part_9 ?_
  refine z_goto (tgt := 17) dL_part_10 (by decide) ?_
  refine z_iconst (v := nI 0) dL_part_17 (by decide) ?_
  exact zw_ret (Nat.zero_le _) (Nat.zero_le _) rfl dL_part_18 ⟨rfl, _, hp, rfl⟩
set_option maxRecDepth 100000 in
theorem th_L_part_1 (G : Gt) {x y : Int32} {PP : Mm → Prop} {μ : Mm} (h : EVx G 8 Y_X7_part [rf G 0, .int x, .int y] μ PP "java/lang/IllegalArgumentException") : EVc G 9 Y_L_part H_L_part [rf G 0, .int x, .int y, rf G 46] μ (fun v u => v = some (.int (nI 1)) ∧ PP u) := by
  refine evc_of (by decide) (Nat.le_of_ble_eq_true rfl) ?_
  show Zs G 9 Y_L_part (1, 6, 0, 0, enW G H_L_part _) 0 [(0, rf G 0), (1, .int x), (2, .int y), (3, rf G 46)] [] μ
  refine z_aload_n dL_part_0 rfl ?_
  refine z_iconst (v := nI 0) dL_part_1 (by decide) ?_
  refine z_aload_n dL_part_2 rfl ?_
  refine z_iload_n dL_part_3 rfl ?_
  refine z_iload_n dL_part_4 rfl ?_
  refine z_callX (As := [.int x, .int y]) dL_part_5 rfl lk_L_48 rfl (by decide) ⟨by decide, _, rfl⟩ rfl (Nat.le_of_ble_eq_true rfl) h [] ⟨0, 10, 13, 13⟩ [] rfl (fun z hz => absurd hz List.not_mem_nil) (by decide) (by decide) (tb_at 769 (by decide +kernel) rfl) (List.mem_of_getElem? (i := 0) rfl) ?_
  intro q u hp
  refine zr_astore (lv' := [(4, _), (0, _), (1, _), (2, _), (3, _)]) dL_part_13 (by decide) rfl ?_
  refine z_iconst (v := nI 1) dL_part_15 (by decide) ?_
  exact zw_ret (Nat.le_refl _) (Nat.le_refl _) rfl dL_part_16 ⟨rfl, hp⟩
set_option maxRecDepth 100000 in
theorem ok_L_whole (G : Gt) {x : Int32} {R : Int32} {PP : Mm → Prop} {μ : Mm} (h : EV G 6 Y_X7_whole [rf G 0, .int x] μ (fun v u => v = some (.int R) ∧ PP u)) : EVc G 9 Y_L_whole H_L_whole [rf G 0, .int x, rf G 46] μ (fun v u => v = some (.int (nI 0)) ∧ ∃ u0, PP u0 ∧ u = uO u0 R.toInt64) := by
  refine evc_of (by decide) (Nat.le_of_ble_eq_true rfl) ?_
  show Zs G 9 Y_L_whole (1, 6, 0, 0, enW G H_L_whole _) 0 [(0, rf G 0), (1, .int x), (2, rf G 46)] [] μ
  refine z_aload_n dL_whole_0 rfl ?_
  refine z_iconst (v := nI 0) dL_whole_1 (by decide) ?_
  refine z_aload_n dL_whole_2 rfl ?_
  refine z_iload_n dL_whole_3 rfl ?_
  refine z_cV1g dL_whole_4 lk_L_51 (by decide) ⟨by decide, _, rfl⟩ rfl (Nat.le_of_ble_eq_true rfl) (h) ?_
  rintro v u ⟨rfl, hp⟩
  refine z_i2l dL_whole_7 rfl ?_
  refine z_lastN dL_whole_8 ?_
  refine z_goto (tgt := 15) dL_whole_9 (by decide) ?_
  refine z_iconst (v := nI 0) dL_whole_15 (by decide) ?_
  exact zw_ret (Nat.zero_le _) (Nat.zero_le _) rfl dL_whole_16 ⟨rfl, _, hp, rfl⟩
set_option maxRecDepth 100000 in
theorem th_L_whole_1 (G : Gt) {x : Int32} {PP : Mm → Prop} {μ : Mm} (h : EVx G 8 Y_X7_whole [rf G 0, .int x] μ PP "java/lang/IllegalArgumentException") : EVc G 9 Y_L_whole H_L_whole [rf G 0, .int x, rf G 46] μ (fun v u => v = some (.int (nI 1)) ∧ PP u) := by
  refine evc_of (by decide) (Nat.le_of_ble_eq_true rfl) ?_
  show Zs G 9 Y_L_whole (1, 6, 0, 0, enW G H_L_whole _) 0 [(0, rf G 0), (1, .int x), (2, rf G 46)] [] μ
  refine z_aload_n dL_whole_0 rfl ?_
  refine z_iconst (v := nI 0) dL_whole_1 (by decide) ?_
  refine z_aload_n dL_whole_2 rfl ?_
  refine z_iload_n dL_whole_3 rfl ?_
  refine z_callX (As := [.int x]) dL_whole_4 rfl lk_L_51 rfl (by decide) ⟨by decide, _, rfl⟩ rfl (Nat.le_of_ble_eq_true rfl) h [] ⟨0, 9, 12, 13⟩ [] rfl (fun z hz => absurd hz List.not_mem_nil) (by decide) (by decide) (tb_at 769 (by decide +kernel) rfl) (List.mem_of_getElem? (i := 0) rfl) ?_
  intro q u hp
  refine zr_astore_n (lv' := [(3, _), (0, _), (1, _), (2, _)]) dL_whole_12 rfl (by decide) rfl ?_
  refine z_iconst (v := nI 1) dL_whole_13 (by decide) ?_
  exact zw_ret (Nat.le_refl _) (Nat.le_refl _) rfl dL_whole_14 ⟨rfl, hp⟩
set_option maxRecDepth 100000 in
theorem ok_L_reason (G : Gt) {x : Int32} {R : Int32} {PP : Mm → Prop} {μ : Mm} (h : EV G 5 Y_X7_reason [rf G 0, .int x] μ (fun v u => v = some (.int R) ∧ PP u)) : EVc G 9 Y_L_reason H_L_reason [rf G 0, .int x, rf G 46] μ (fun v u => v = some (.int (nI 0)) ∧ ∃ u0, PP u0 ∧ u = uO u0 R.toInt64) := by
  refine evc_of (by decide) (Nat.le_of_ble_eq_true rfl) ?_
  show Zs G 9 Y_L_reason (1, 6, 0, 0, enW G H_L_reason _) 0 [(0, rf G 0), (1, .int x), (2, rf G 46)] [] μ
  refine z_aload_n dL_reason_0 rfl ?_
  refine z_iconst (v := nI 0) dL_reason_1 (by decide) ?_
  refine z_aload_n dL_reason_2 rfl ?_
  refine z_iload_n dL_reason_3 rfl ?_
  refine z_cV1g dL_reason_4 lk_L_54 (by decide) ⟨by decide, _, rfl⟩ rfl (Nat.le_of_ble_eq_true rfl) (h) ?_
  rintro v u ⟨rfl, hp⟩
  refine z_i2l dL_reason_7 rfl ?_
  refine z_lastN dL_reason_8 ?_
  refine z_goto (tgt := 15) dL_reason_9 (by decide) ?_
  refine z_iconst (v := nI 0) dL_reason_15 (by decide) ?_
  exact zw_ret (Nat.zero_le _) (Nat.zero_le _) rfl dL_reason_16 ⟨rfl, _, hp, rfl⟩
set_option maxRecDepth 100000 in
theorem th_L_reason_1 (G : Gt) {x : Int32} {PP : Mm → Prop} {μ : Mm} (h : EVx G 8 Y_X7_reason [rf G 0, .int x] μ PP "java/lang/IllegalArgumentException") : EVc G 9 Y_L_reason H_L_reason [rf G 0, .int x, rf G 46] μ (fun v u => v = some (.int (nI 1)) ∧ PP u) := by
  refine evc_of (by decide) (Nat.le_of_ble_eq_true rfl) ?_
  show Zs G 9 Y_L_reason (1, 6, 0, 0, enW G H_L_reason _) 0 [(0, rf G 0), (1, .int x), (2, rf G 46)] [] μ
  refine z_aload_n dL_reason_0 rfl ?_
  refine z_iconst (v := nI 0) dL_reason_1 (by decide) ?_
  refine z_aload_n dL_reason_2 rfl ?_
  refine z_iload_n dL_reason_3 rfl ?_
  refine z_callX (As := [.int x]) dL_reason_4 rfl lk_L_54 rfl (by decide) ⟨by decide, _, rfl⟩ rfl (Nat.le_of_ble_eq_true rfl) h [] ⟨0, 9, 12, 13⟩ [] rfl (fun z hz => absurd hz List.not_mem_nil) (by decide) (by decide) (tb_at 769 (by decide +kernel) rfl) (List.mem_of_getElem? (i := 0) rfl) ?_
  intro q u hp
  refine zr_astore_n (lv' := [(3, _), (0, _), (1, _), (2, _)]) dL_reason_12 rfl (by decide) rfl ?_
  refine z_iconst (v := nI 1) dL_reason_13 (by decide) ?_
  exact zw_ret (Nat.le_refl _) (Nat.le_refl _) rfl dL_reason_14 ⟨rfl, hp⟩
set_option maxRecDepth 100000 in
theorem ok_L_blocksWith (G : Gt) {x y : Int32} {R : Int32} {PP : Mm → Prop} {μ : Mm} (h : EV G 5 Y_X7_blocksWith [rf G 0, .int x, .int y] μ (fun v u => v = some (.int R) ∧ PP u)) : EVc G 9 Y_L_blocksWith H_L_blocksWith [rf G 0, .int x, .int y, rf G 46] μ (fun v u => v = some (.int (nI 0)) ∧ ∃ u0, PP u0 ∧ u = uO u0 R.toInt64) := by
  refine evc_of (by decide) (Nat.le_of_ble_eq_true rfl) ?_
  show Zs G 9 Y_L_blocksWith (1, 6, 0, 0, enW G H_L_blocksWith _) 0 [(0, rf G 0), (1, .int x), (2, .int y), (3, rf G 46)] [] μ
  refine z_aload_n dL_blocksWith_0 rfl ?_
  refine z_iconst (v := nI 0) dL_blocksWith_1 (by decide) ?_
  refine z_aload_n dL_blocksWith_2 rfl ?_
  refine z_iload_n dL_blocksWith_3 rfl ?_
  refine z_iload_n dL_blocksWith_4 rfl ?_
  refine z_cV2g dL_blocksWith_5 lk_L_57 (by decide) ⟨by decide, _, rfl⟩ rfl (Nat.le_of_ble_eq_true rfl) (h) ?_
  rintro v u ⟨rfl, hp⟩
  refine z_i2l dL_blocksWith_8 rfl ?_
  refine z_lastN dL_blocksWith_9 ?_
  refine z_goto (tgt := 21) dL_blocksWith_10 (by decide) ?_
  refine z_iconst (v := nI 0) dL_blocksWith_21 (by decide) ?_
  exact zw_ret (Nat.zero_le _) (Nat.zero_le _) rfl dL_blocksWith_22 ⟨rfl, _, hp, rfl⟩
set_option maxRecDepth 100000 in
theorem th_L_blocksWith_1 (G : Gt) {x y : Int32} {PP : Mm → Prop} {μ : Mm} (h : EVx G 8 Y_X7_blocksWith [rf G 0, .int x, .int y] μ PP "java/lang/IndexOutOfBoundsException") : EVc G 9 Y_L_blocksWith H_L_blocksWith [rf G 0, .int x, .int y, rf G 46] μ (fun v u => v = some (.int (nI 1)) ∧ PP u) := by
  refine evc_of (by decide) (Nat.le_of_ble_eq_true rfl) ?_
  show Zs G 9 Y_L_blocksWith (1, 6, 0, 0, enW G H_L_blocksWith _) 0 [(0, rf G 0), (1, .int x), (2, .int y), (3, rf G 46)] [] μ
  refine z_aload_n dL_blocksWith_0 rfl ?_
  refine z_iconst (v := nI 0) dL_blocksWith_1 (by decide) ?_
  refine z_aload_n dL_blocksWith_2 rfl ?_
  refine z_iload_n dL_blocksWith_3 rfl ?_
  refine z_iload_n dL_blocksWith_4 rfl ?_
  refine z_callX (As := [.int x, .int y]) dL_blocksWith_5 rfl lk_L_57 rfl (by decide) ⟨by decide, _, rfl⟩ rfl (Nat.le_of_ble_eq_true rfl) h [] ⟨0, 10, 13, 19⟩ [⟨0, 10, 17, 13⟩] rfl (fun z hz => absurd hz List.not_mem_nil) (by decide) (by decide) (tb_at 778 (by decide +kernel) rfl) (List.mem_of_getElem? (i := 1) rfl) ?_
  intro q u hp
  refine zr_astore (lv' := [(4, _), (0, _), (1, _), (2, _), (3, _)]) dL_blocksWith_13 (by decide) rfl ?_
  refine z_iconst (v := nI 1) dL_blocksWith_15 (by decide) ?_
  exact zw_ret (Nat.le_refl _) (Nat.le_refl _) rfl dL_blocksWith_16 ⟨rfl, hp⟩
set_option maxRecDepth 100000 in
theorem th_L_blocksWith_2 (G : Gt) {x y : Int32} {PP : Mm → Prop} {μ : Mm} (h : EVx G 8 Y_X7_blocksWith [rf G 0, .int x, .int y] μ PP "java/lang/IllegalArgumentException") : EVc G 9 Y_L_blocksWith H_L_blocksWith [rf G 0, .int x, .int y, rf G 46] μ (fun v u => v = some (.int (nI 2)) ∧ PP u) := by
  refine evc_of (by decide) (Nat.le_of_ble_eq_true rfl) ?_
  show Zs G 9 Y_L_blocksWith (1, 6, 0, 0, enW G H_L_blocksWith _) 0 [(0, rf G 0), (1, .int x), (2, .int y), (3, rf G 46)] [] μ
  refine z_aload_n dL_blocksWith_0 rfl ?_
  refine z_iconst (v := nI 0) dL_blocksWith_1 (by decide) ?_
  refine z_aload_n dL_blocksWith_2 rfl ?_
  refine z_iload_n dL_blocksWith_3 rfl ?_
  refine z_iload_n dL_blocksWith_4 rfl ?_
  refine z_callX (As := [.int x, .int y]) dL_blocksWith_5 rfl lk_L_57 rfl (by decide) ⟨by decide, _, rfl⟩ rfl (Nat.le_of_ble_eq_true rfl) h [⟨0, 10, 13, 19⟩] ⟨0, 10, 17, 13⟩ [] rfl (fun z hz => by rw [List.mem_singleton.mp hz]; exact Or.inr ⟨by decide, "java/lang/IndexOutOfBoundsException", tb_at 778 (by decide +kernel) rfl, List.mem_of_getElem? (i := 1) rfl⟩) (by decide) (by decide) (tb_at 769 (by decide +kernel) rfl) (List.mem_of_getElem? (i := 0) rfl) ?_
  intro q u hp
  refine zr_astore (lv' := [(4, _), (0, _), (1, _), (2, _), (3, _)]) dL_blocksWith_17 (by decide) rfl ?_
  refine z_iconst (v := nI 2) dL_blocksWith_19 (by decide) ?_
  exact zw_ret (Nat.le_refl _) (Nat.le_refl _) rfl dL_blocksWith_20 ⟨rfl, hp⟩
set_option maxRecDepth 100000 in
theorem ok_L_alike (G : Gt) {x y : Int32} {R : Int32} {PP : Mm → Prop} {μ : Mm} (h : EV G 2 Y_X7_alike [rf G 0, .int x, .int y] μ (fun v u => v = some (.int R) ∧ PP u)) : EVc G 9 Y_L_alike H_L_alike [rf G 0, .int x, .int y, rf G 46] μ (fun v u => v = some (.int (nI 0)) ∧ ∃ u0, PP u0 ∧ u = uO u0 R.toInt64) := by
  refine evc_of (by decide) (Nat.le_of_ble_eq_true rfl) ?_
  show Zs G 9 Y_L_alike (1, 6, 0, 0, enW G H_L_alike _) 0 [(0, rf G 0), (1, .int x), (2, .int y), (3, rf G 46)] [] μ
  refine z_aload_n dL_alike_0 rfl ?_
  refine z_iconst (v := nI 0) dL_alike_1 (by decide) ?_
  refine z_aload_n dL_alike_2 rfl ?_
  refine z_iload_n dL_alike_3 rfl ?_
  refine z_iload_n dL_alike_4 rfl ?_
  refine z_cV2g dL_alike_5 lk_L_60 (by decide) ⟨by decide, _, rfl⟩ rfl (Nat.le_of_ble_eq_true rfl) (h) ?_
  rintro v u ⟨rfl, hp⟩
  refine z_i2l dL_alike_8 rfl ?_
  refine z_lastN dL_alike_9 ?_
  refine z_goto (tgt := 17) dL_alike_10 (by decide) ?_
  refine z_iconst (v := nI 0) dL_alike_17 (by decide) ?_
  exact zw_ret (Nat.zero_le _) (Nat.zero_le _) rfl dL_alike_18 ⟨rfl, _, hp, rfl⟩
set_option maxRecDepth 100000 in
theorem th_L_alike_1 (G : Gt) {x y : Int32} {PP : Mm → Prop} {μ : Mm} (h : EVx G 8 Y_X7_alike [rf G 0, .int x, .int y] μ PP "java/lang/IllegalArgumentException") : EVc G 9 Y_L_alike H_L_alike [rf G 0, .int x, .int y, rf G 46] μ (fun v u => v = some (.int (nI 1)) ∧ PP u) := by
  refine evc_of (by decide) (Nat.le_of_ble_eq_true rfl) ?_
  show Zs G 9 Y_L_alike (1, 6, 0, 0, enW G H_L_alike _) 0 [(0, rf G 0), (1, .int x), (2, .int y), (3, rf G 46)] [] μ
  refine z_aload_n dL_alike_0 rfl ?_
  refine z_iconst (v := nI 0) dL_alike_1 (by decide) ?_
  refine z_aload_n dL_alike_2 rfl ?_
  refine z_iload_n dL_alike_3 rfl ?_
  refine z_iload_n dL_alike_4 rfl ?_
  refine z_callX (As := [.int x, .int y]) dL_alike_5 rfl lk_L_60 rfl (by decide) ⟨by decide, _, rfl⟩ rfl (Nat.le_of_ble_eq_true rfl) h [] ⟨0, 10, 13, 13⟩ [] rfl (fun z hz => absurd hz List.not_mem_nil) (by decide) (by decide) (tb_at 769 (by decide +kernel) rfl) (List.mem_of_getElem? (i := 0) rfl) ?_
  intro q u hp
  refine zr_astore (lv' := [(4, _), (0, _), (1, _), (2, _), (3, _)]) dL_alike_13 (by decide) rfl ?_
  refine z_iconst (v := nI 1) dL_alike_15 (by decide) ?_
  exact zw_ret (Nat.le_refl _) (Nat.le_refl _) rfl dL_alike_16 ⟨rfl, hp⟩
set_option maxRecDepth 100000 in
theorem ok_L_type (G : Gt) {x : Int32} {R : Int32} {PP : Mm → Prop} {μ : Mm} (h : EV G 3 Y_X7_type [rf G 0, .int x] μ (fun v u => v = some (.int R) ∧ PP u)) : EVc G 9 Y_L_type H_L_type [rf G 0, .int x, rf G 46] μ (fun v u => v = some (.int (nI 0)) ∧ ∃ u0, PP u0 ∧ u = uO u0 R.toInt64) := by
  refine evc_of (by decide) (Nat.le_of_ble_eq_true rfl) ?_
  show Zs G 9 Y_L_type (1, 6, 0, 0, enW G H_L_type _) 0 [(0, rf G 0), (1, .int x), (2, rf G 46)] [] μ
  refine z_aload_n dL_type_0 rfl ?_
  refine z_iconst (v := nI 0) dL_type_1 (by decide) ?_
  refine z_aload_n dL_type_2 rfl ?_
  refine z_iload_n dL_type_3 rfl ?_
  refine z_cV1g dL_type_4 lk_L_63 (by decide) ⟨by decide, _, rfl⟩ rfl (Nat.le_of_ble_eq_true rfl) (h) ?_
  rintro v u ⟨rfl, hp⟩
  refine z_i2l dL_type_7 rfl ?_
  refine z_lastN dL_type_8 ?_
  refine z_goto (tgt := 18) dL_type_9 (by decide) ?_
  refine z_iconst (v := nI 0) dL_type_18 (by decide) ?_
  exact zw_ret (Nat.zero_le _) (Nat.zero_le _) rfl dL_type_19 ⟨rfl, _, hp, rfl⟩
set_option maxRecDepth 100000 in
theorem th_L_type_1 (G : Gt) {x : Int32} {PP : Mm → Prop} {μ : Mm} (h : EVx G 8 Y_X7_type [rf G 0, .int x] μ PP "java/lang/IllegalArgumentException") : EVc G 9 Y_L_type H_L_type [rf G 0, .int x, rf G 46] μ (fun v u => v = some (.int (nI 1)) ∧ PP u) := by
  refine evc_of (by decide) (Nat.le_of_ble_eq_true rfl) ?_
  show Zs G 9 Y_L_type (1, 6, 0, 0, enW G H_L_type _) 0 [(0, rf G 0), (1, .int x), (2, rf G 46)] [] μ
  refine z_aload_n dL_type_0 rfl ?_
  refine z_iconst (v := nI 0) dL_type_1 (by decide) ?_
  refine z_aload_n dL_type_2 rfl ?_
  refine z_iload_n dL_type_3 rfl ?_
  refine z_callX (As := [.int x]) dL_type_4 rfl lk_L_63 rfl (by decide) ⟨by decide, _, rfl⟩ rfl (Nat.le_of_ble_eq_true rfl) h [] ⟨0, 9, 12, 13⟩ [⟨0, 9, 15, 21⟩] rfl (fun z hz => absurd hz List.not_mem_nil) (by decide) (by decide) (tb_at 769 (by decide +kernel) rfl) (List.mem_of_getElem? (i := 0) rfl) ?_
  intro q u hp
  refine zr_astore_n (lv' := [(3, _), (0, _), (1, _), (2, _)]) dL_type_12 rfl (by decide) rfl ?_
  refine z_iconst (v := nI 1) dL_type_13 (by decide) ?_
  exact zw_ret (Nat.le_refl _) (Nat.le_refl _) rfl dL_type_14 ⟨rfl, hp⟩
set_option maxRecDepth 100000 in
theorem th_L_type_2 (G : Gt) {x : Int32} {PP : Mm → Prop} {μ : Mm} (h : EVx G 8 Y_X7_type [rf G 0, .int x] μ PP "java/lang/IllegalStateException") : EVc G 9 Y_L_type H_L_type [rf G 0, .int x, rf G 46] μ (fun v u => v = some (.int (nI 2)) ∧ PP u) := by
  refine evc_of (by decide) (Nat.le_of_ble_eq_true rfl) ?_
  show Zs G 9 Y_L_type (1, 6, 0, 0, enW G H_L_type _) 0 [(0, rf G 0), (1, .int x), (2, rf G 46)] [] μ
  refine z_aload_n dL_type_0 rfl ?_
  refine z_iconst (v := nI 0) dL_type_1 (by decide) ?_
  refine z_aload_n dL_type_2 rfl ?_
  refine z_iload_n dL_type_3 rfl ?_
  refine z_callX (As := [.int x]) dL_type_4 rfl lk_L_63 rfl (by decide) ⟨by decide, _, rfl⟩ rfl (Nat.le_of_ble_eq_true rfl) h [⟨0, 9, 12, 13⟩] ⟨0, 9, 15, 21⟩ [] rfl (fun z hz => by rw [List.mem_singleton.mp hz]; exact Or.inr ⟨by decide, "java/lang/IllegalArgumentException", tb_at 769 (by decide +kernel) rfl, List.mem_of_getElem? (i := 2) rfl⟩) (by decide) (by decide) (tb_at 779 (by decide +kernel) rfl) (List.mem_of_getElem? (i := 2) rfl) ?_
  intro q u hp
  refine zr_astore_n (lv' := [(3, _), (0, _), (1, _), (2, _)]) dL_type_15 rfl (by decide) rfl ?_
  refine z_iconst (v := nI 2) dL_type_16 (by decide) ?_
  exact zw_ret (Nat.le_refl _) (Nat.le_refl _) rfl dL_type_17 ⟨rfl, hp⟩
set_option maxRecDepth 100000 in
theorem ok_L_undo (G : Gt) {R : Int32} {PP : Mm → Prop} {μ : Mm} (h : EV G 4 Y_X7_undo [rf G 0] μ (fun v u => v = some (.int R) ∧ PP u)) : EVc G 9 Y_L_undo H_L_undo [rf G 0, rf G 46] μ (fun v u => v = some (.int (nI 0)) ∧ ∃ u0, PP u0 ∧ u = uO u0 R.toInt64) := by
  refine evc_of (by decide) (Nat.le_of_ble_eq_true rfl) ?_
  show Zs G 9 Y_L_undo (1, 6, 0, 0, enW G H_L_undo _) 0 [(0, rf G 0), (1, rf G 46)] [] μ
  refine z_aload_n dL_undo_0 rfl ?_
  refine z_iconst (v := nI 0) dL_undo_1 (by decide) ?_
  refine z_aload_n dL_undo_2 rfl ?_
  refine z_cV0g dL_undo_3 lk_L_66 (by decide) ⟨by decide, _, rfl⟩ rfl (Nat.le_of_ble_eq_true rfl) (h) ?_
  rintro v u ⟨rfl, hp⟩
  refine z_i2l dL_undo_6 rfl ?_
  refine z_lastN dL_undo_7 ?_
  refine z_goto (tgt := 14) dL_undo_8 (by decide) ?_
  refine z_iconst (v := nI 0) dL_undo_14 (by decide) ?_
  exact zw_ret (Nat.zero_le _) (Nat.zero_le _) rfl dL_undo_15 ⟨rfl, _, hp, rfl⟩
set_option maxRecDepth 100000 in
theorem th_L_undo_1 (G : Gt) {PP : Mm → Prop} {μ : Mm} (h : EVx G 8 Y_X7_undo [rf G 0] μ PP "java/lang/IllegalStateException") : EVc G 9 Y_L_undo H_L_undo [rf G 0, rf G 46] μ (fun v u => v = some (.int (nI 1)) ∧ PP u) := by
  refine evc_of (by decide) (Nat.le_of_ble_eq_true rfl) ?_
  show Zs G 9 Y_L_undo (1, 6, 0, 0, enW G H_L_undo _) 0 [(0, rf G 0), (1, rf G 46)] [] μ
  refine z_aload_n dL_undo_0 rfl ?_
  refine z_iconst (v := nI 0) dL_undo_1 (by decide) ?_
  refine z_aload_n dL_undo_2 rfl ?_
  refine z_callX (As := []) dL_undo_3 rfl lk_L_66 rfl (by decide) ⟨by decide, _, rfl⟩ rfl (Nat.le_of_ble_eq_true rfl) h [] ⟨0, 8, 11, 21⟩ [] rfl (fun z hz => absurd hz List.not_mem_nil) (by decide) (by decide) (tb_at 779 (by decide +kernel) rfl) (List.mem_of_getElem? (i := 2) rfl) ?_
  intro q u hp
  refine zr_astore_n (lv' := [(2, _), (0, _), (1, _)]) dL_undo_11 rfl (by decide) rfl ?_
  refine z_iconst (v := nI 1) dL_undo_12 (by decide) ?_
  exact zw_ret (Nat.le_refl _) (Nat.le_refl _) rfl dL_undo_13 ⟨rfl, hp⟩
