section
/-! the words of the tables by their places, in segments -/
theorem cond_el {α : Type} {c : Bool} {a b : Option α} {w : α} {P : Prop} (h : cond c a b = some w) (f : a = some w → P) (g : b = some w → P) : P := by
  cases c
  · exact g h
  · exact f h
def ls_0 : List Cond := k2_sels lw_privs
theorem ls_0_in {w : Cond} (h : w ∈ ls_0) : w ∈ lw_tbl := List.mem_append_left _ h
def ls_1 : List Cond := ls_0.drop 16
theorem ls_1_in {w : Cond} (h : w ∈ ls_1) : w ∈ lw_tbl := ls_0_in (List.mem_of_mem_drop h)
def ls_2 : List Cond := ls_1.drop 16
theorem ls_2_in {w : Cond} (h : w ∈ ls_2) : w ∈ lw_tbl := ls_1_in (List.mem_of_mem_drop h)
def ls_3 : List Cond := ls_2.drop 16
theorem ls_3_in {w : Cond} (h : w ∈ ls_3) : w ∈ lw_tbl := ls_2_in (List.mem_of_mem_drop h)
def lt1_0 : List Cond := tables_1_1
theorem lt1_0_in {w : Cond} (h : w ∈ lt1_0) : w ∈ lw_tbl := List.mem_append_right _ (show w ∈ tables_1 from List.mem_append_left _ h)
def lt1_1 : List Cond := lt1_0.drop 16
theorem lt1_1_in {w : Cond} (h : w ∈ lt1_1) : w ∈ lw_tbl := lt1_0_in (List.mem_of_mem_drop h)
def lt1_2 : List Cond := lt1_1.drop 16
theorem lt1_2_in {w : Cond} (h : w ∈ lt1_2) : w ∈ lw_tbl := lt1_1_in (List.mem_of_mem_drop h)
def lt1_3 : List Cond := lt1_2.drop 16
theorem lt1_3_in {w : Cond} (h : w ∈ lt1_3) : w ∈ lw_tbl := lt1_2_in (List.mem_of_mem_drop h)
def lt1_4 : List Cond := lt1_3.drop 16
theorem lt1_4_in {w : Cond} (h : w ∈ lt1_4) : w ∈ lw_tbl := lt1_3_in (List.mem_of_mem_drop h)
def lt1_5 : List Cond := lt1_4.drop 16
theorem lt1_5_in {w : Cond} (h : w ∈ lt1_5) : w ∈ lw_tbl := lt1_4_in (List.mem_of_mem_drop h)
def lt1_6 : List Cond := lt1_5.drop 16
theorem lt1_6_in {w : Cond} (h : w ∈ lt1_6) : w ∈ lw_tbl := lt1_5_in (List.mem_of_mem_drop h)
def lt1_7 : List Cond := lt1_6.drop 16
theorem lt1_7_in {w : Cond} (h : w ∈ lt1_7) : w ∈ lw_tbl := lt1_6_in (List.mem_of_mem_drop h)
def lt1_8 : List Cond := lt1_7.drop 16
theorem lt1_8_in {w : Cond} (h : w ∈ lt1_8) : w ∈ lw_tbl := lt1_7_in (List.mem_of_mem_drop h)
def lt1_9 : List Cond := lt1_8.drop 16
theorem lt1_9_in {w : Cond} (h : w ∈ lt1_9) : w ∈ lw_tbl := lt1_8_in (List.mem_of_mem_drop h)
def lt1_10 : List Cond := lt1_9.drop 16
theorem lt1_10_in {w : Cond} (h : w ∈ lt1_10) : w ∈ lw_tbl := lt1_9_in (List.mem_of_mem_drop h)
def lt1_11 : List Cond := lt1_10.drop 16
theorem lt1_11_in {w : Cond} (h : w ∈ lt1_11) : w ∈ lw_tbl := lt1_10_in (List.mem_of_mem_drop h)
def lt1_12 : List Cond := lt1_11.drop 16
theorem lt1_12_in {w : Cond} (h : w ∈ lt1_12) : w ∈ lw_tbl := lt1_11_in (List.mem_of_mem_drop h)
def lt1_13 : List Cond := lt1_12.drop 16
theorem lt1_13_in {w : Cond} (h : w ∈ lt1_13) : w ∈ lw_tbl := lt1_12_in (List.mem_of_mem_drop h)
def lt1_14 : List Cond := lt1_13.drop 16
theorem lt1_14_in {w : Cond} (h : w ∈ lt1_14) : w ∈ lw_tbl := lt1_13_in (List.mem_of_mem_drop h)
def lt2_0 : List Cond := tables_1_2
theorem lt2_0_in {w : Cond} (h : w ∈ lt2_0) : w ∈ lw_tbl := List.mem_append_right _ (show w ∈ tables_1 from List.mem_append_right _ (List.mem_append_left _ h))
def lt2_1 : List Cond := lt2_0.drop 16
theorem lt2_1_in {w : Cond} (h : w ∈ lt2_1) : w ∈ lw_tbl := lt2_0_in (List.mem_of_mem_drop h)
def lt2_2 : List Cond := lt2_1.drop 16
theorem lt2_2_in {w : Cond} (h : w ∈ lt2_2) : w ∈ lw_tbl := lt2_1_in (List.mem_of_mem_drop h)
def lt2_3 : List Cond := lt2_2.drop 16
theorem lt2_3_in {w : Cond} (h : w ∈ lt2_3) : w ∈ lw_tbl := lt2_2_in (List.mem_of_mem_drop h)
def lt2_4 : List Cond := lt2_3.drop 16
theorem lt2_4_in {w : Cond} (h : w ∈ lt2_4) : w ∈ lw_tbl := lt2_3_in (List.mem_of_mem_drop h)
def lt2_5 : List Cond := lt2_4.drop 16
theorem lt2_5_in {w : Cond} (h : w ∈ lt2_5) : w ∈ lw_tbl := lt2_4_in (List.mem_of_mem_drop h)
def lt2_6 : List Cond := lt2_5.drop 16
theorem lt2_6_in {w : Cond} (h : w ∈ lt2_6) : w ∈ lw_tbl := lt2_5_in (List.mem_of_mem_drop h)
def lt2_7 : List Cond := lt2_6.drop 16
theorem lt2_7_in {w : Cond} (h : w ∈ lt2_7) : w ∈ lw_tbl := lt2_6_in (List.mem_of_mem_drop h)
def lt2_8 : List Cond := lt2_7.drop 16
theorem lt2_8_in {w : Cond} (h : w ∈ lt2_8) : w ∈ lw_tbl := lt2_7_in (List.mem_of_mem_drop h)
def lt2_9 : List Cond := lt2_8.drop 16
theorem lt2_9_in {w : Cond} (h : w ∈ lt2_9) : w ∈ lw_tbl := lt2_8_in (List.mem_of_mem_drop h)
def lt2_10 : List Cond := lt2_9.drop 16
theorem lt2_10_in {w : Cond} (h : w ∈ lt2_10) : w ∈ lw_tbl := lt2_9_in (List.mem_of_mem_drop h)
def lt2_11 : List Cond := lt2_10.drop 16
theorem lt2_11_in {w : Cond} (h : w ∈ lt2_11) : w ∈ lw_tbl := lt2_10_in (List.mem_of_mem_drop h)
def lt2_12 : List Cond := lt2_11.drop 16
theorem lt2_12_in {w : Cond} (h : w ∈ lt2_12) : w ∈ lw_tbl := lt2_11_in (List.mem_of_mem_drop h)
def lt2_13 : List Cond := lt2_12.drop 16
theorem lt2_13_in {w : Cond} (h : w ∈ lt2_13) : w ∈ lw_tbl := lt2_12_in (List.mem_of_mem_drop h)
def lt2_14 : List Cond := lt2_13.drop 16
theorem lt2_14_in {w : Cond} (h : w ∈ lt2_14) : w ∈ lw_tbl := lt2_13_in (List.mem_of_mem_drop h)
def lt3_0 : List Cond := tables_1_3
theorem lt3_0_in {w : Cond} (h : w ∈ lt3_0) : w ∈ lw_tbl := List.mem_append_right _ (show w ∈ tables_1 from List.mem_append_right _ (List.mem_append_right _ (List.mem_append_left _ h)))
def lt3_1 : List Cond := lt3_0.drop 16
theorem lt3_1_in {w : Cond} (h : w ∈ lt3_1) : w ∈ lw_tbl := lt3_0_in (List.mem_of_mem_drop h)
def lt3_2 : List Cond := lt3_1.drop 16
theorem lt3_2_in {w : Cond} (h : w ∈ lt3_2) : w ∈ lw_tbl := lt3_1_in (List.mem_of_mem_drop h)
def lt3_3 : List Cond := lt3_2.drop 16
theorem lt3_3_in {w : Cond} (h : w ∈ lt3_3) : w ∈ lw_tbl := lt3_2_in (List.mem_of_mem_drop h)
def lt3_4 : List Cond := lt3_3.drop 16
theorem lt3_4_in {w : Cond} (h : w ∈ lt3_4) : w ∈ lw_tbl := lt3_3_in (List.mem_of_mem_drop h)
def lt3_5 : List Cond := lt3_4.drop 16
theorem lt3_5_in {w : Cond} (h : w ∈ lt3_5) : w ∈ lw_tbl := lt3_4_in (List.mem_of_mem_drop h)
def lt3_6 : List Cond := lt3_5.drop 16
theorem lt3_6_in {w : Cond} (h : w ∈ lt3_6) : w ∈ lw_tbl := lt3_5_in (List.mem_of_mem_drop h)
def lt3_7 : List Cond := lt3_6.drop 16
theorem lt3_7_in {w : Cond} (h : w ∈ lt3_7) : w ∈ lw_tbl := lt3_6_in (List.mem_of_mem_drop h)
def lt3_8 : List Cond := lt3_7.drop 16
theorem lt3_8_in {w : Cond} (h : w ∈ lt3_8) : w ∈ lw_tbl := lt3_7_in (List.mem_of_mem_drop h)
def lt3_9 : List Cond := lt3_8.drop 16
theorem lt3_9_in {w : Cond} (h : w ∈ lt3_9) : w ∈ lw_tbl := lt3_8_in (List.mem_of_mem_drop h)
def lt3_10 : List Cond := lt3_9.drop 16
theorem lt3_10_in {w : Cond} (h : w ∈ lt3_10) : w ∈ lw_tbl := lt3_9_in (List.mem_of_mem_drop h)
def lt3_11 : List Cond := lt3_10.drop 16
theorem lt3_11_in {w : Cond} (h : w ∈ lt3_11) : w ∈ lw_tbl := lt3_10_in (List.mem_of_mem_drop h)
def lt3_12 : List Cond := lt3_11.drop 16
theorem lt3_12_in {w : Cond} (h : w ∈ lt3_12) : w ∈ lw_tbl := lt3_11_in (List.mem_of_mem_drop h)
def lt3_13 : List Cond := lt3_12.drop 16
theorem lt3_13_in {w : Cond} (h : w ∈ lt3_13) : w ∈ lw_tbl := lt3_12_in (List.mem_of_mem_drop h)
def lt3_14 : List Cond := lt3_13.drop 16
theorem lt3_14_in {w : Cond} (h : w ∈ lt3_14) : w ∈ lw_tbl := lt3_13_in (List.mem_of_mem_drop h)
def lt4_0 : List Cond := tables_1_4
theorem lt4_0_in {w : Cond} (h : w ∈ lt4_0) : w ∈ lw_tbl := List.mem_append_right _ (show w ∈ tables_1 from List.mem_append_right _ (List.mem_append_right _ (List.mem_append_right _ (List.mem_append_left _ h))))
def lt4_1 : List Cond := lt4_0.drop 16
theorem lt4_1_in {w : Cond} (h : w ∈ lt4_1) : w ∈ lw_tbl := lt4_0_in (List.mem_of_mem_drop h)
def lt4_2 : List Cond := lt4_1.drop 16
theorem lt4_2_in {w : Cond} (h : w ∈ lt4_2) : w ∈ lw_tbl := lt4_1_in (List.mem_of_mem_drop h)
def lt4_3 : List Cond := lt4_2.drop 16
theorem lt4_3_in {w : Cond} (h : w ∈ lt4_3) : w ∈ lw_tbl := lt4_2_in (List.mem_of_mem_drop h)
def lt4_4 : List Cond := lt4_3.drop 16
theorem lt4_4_in {w : Cond} (h : w ∈ lt4_4) : w ∈ lw_tbl := lt4_3_in (List.mem_of_mem_drop h)
def lt4_5 : List Cond := lt4_4.drop 16
theorem lt4_5_in {w : Cond} (h : w ∈ lt4_5) : w ∈ lw_tbl := lt4_4_in (List.mem_of_mem_drop h)
def lt4_6 : List Cond := lt4_5.drop 16
theorem lt4_6_in {w : Cond} (h : w ∈ lt4_6) : w ∈ lw_tbl := lt4_5_in (List.mem_of_mem_drop h)
def lt4_7 : List Cond := lt4_6.drop 16
theorem lt4_7_in {w : Cond} (h : w ∈ lt4_7) : w ∈ lw_tbl := lt4_6_in (List.mem_of_mem_drop h)
def lt4_8 : List Cond := lt4_7.drop 16
theorem lt4_8_in {w : Cond} (h : w ∈ lt4_8) : w ∈ lw_tbl := lt4_7_in (List.mem_of_mem_drop h)
def lt4_9 : List Cond := lt4_8.drop 16
theorem lt4_9_in {w : Cond} (h : w ∈ lt4_9) : w ∈ lw_tbl := lt4_8_in (List.mem_of_mem_drop h)
def lt4_10 : List Cond := lt4_9.drop 16
theorem lt4_10_in {w : Cond} (h : w ∈ lt4_10) : w ∈ lw_tbl := lt4_9_in (List.mem_of_mem_drop h)
def lt4_11 : List Cond := lt4_10.drop 16
theorem lt4_11_in {w : Cond} (h : w ∈ lt4_11) : w ∈ lw_tbl := lt4_10_in (List.mem_of_mem_drop h)
def lt4_12 : List Cond := lt4_11.drop 16
theorem lt4_12_in {w : Cond} (h : w ∈ lt4_12) : w ∈ lw_tbl := lt4_11_in (List.mem_of_mem_drop h)
def lt4_13 : List Cond := lt4_12.drop 16
theorem lt4_13_in {w : Cond} (h : w ∈ lt4_13) : w ∈ lw_tbl := lt4_12_in (List.mem_of_mem_drop h)
def lt4_14 : List Cond := lt4_13.drop 16
theorem lt4_14_in {w : Cond} (h : w ∈ lt4_14) : w ∈ lw_tbl := lt4_13_in (List.mem_of_mem_drop h)
def lt5_0 : List Cond := tables_1_5
theorem lt5_0_in {w : Cond} (h : w ∈ lt5_0) : w ∈ lw_tbl := List.mem_append_right _ (show w ∈ tables_1 from List.mem_append_right _ (List.mem_append_right _ (List.mem_append_right _ (List.mem_append_right _ (List.mem_append_left _ h)))))
def lt5_1 : List Cond := lt5_0.drop 16
theorem lt5_1_in {w : Cond} (h : w ∈ lt5_1) : w ∈ lw_tbl := lt5_0_in (List.mem_of_mem_drop h)
def lt5_2 : List Cond := lt5_1.drop 16
theorem lt5_2_in {w : Cond} (h : w ∈ lt5_2) : w ∈ lw_tbl := lt5_1_in (List.mem_of_mem_drop h)
def lt5_3 : List Cond := lt5_2.drop 16
theorem lt5_3_in {w : Cond} (h : w ∈ lt5_3) : w ∈ lw_tbl := lt5_2_in (List.mem_of_mem_drop h)
def lt5_4 : List Cond := lt5_3.drop 16
theorem lt5_4_in {w : Cond} (h : w ∈ lt5_4) : w ∈ lw_tbl := lt5_3_in (List.mem_of_mem_drop h)
def lt5_5 : List Cond := lt5_4.drop 16
theorem lt5_5_in {w : Cond} (h : w ∈ lt5_5) : w ∈ lw_tbl := lt5_4_in (List.mem_of_mem_drop h)
def lt5_6 : List Cond := lt5_5.drop 16
theorem lt5_6_in {w : Cond} (h : w ∈ lt5_6) : w ∈ lw_tbl := lt5_5_in (List.mem_of_mem_drop h)
def lt5_7 : List Cond := lt5_6.drop 16
theorem lt5_7_in {w : Cond} (h : w ∈ lt5_7) : w ∈ lw_tbl := lt5_6_in (List.mem_of_mem_drop h)
def lt5_8 : List Cond := lt5_7.drop 16
theorem lt5_8_in {w : Cond} (h : w ∈ lt5_8) : w ∈ lw_tbl := lt5_7_in (List.mem_of_mem_drop h)
def lt5_9 : List Cond := lt5_8.drop 16
theorem lt5_9_in {w : Cond} (h : w ∈ lt5_9) : w ∈ lw_tbl := lt5_8_in (List.mem_of_mem_drop h)
def lt5_10 : List Cond := lt5_9.drop 16
theorem lt5_10_in {w : Cond} (h : w ∈ lt5_10) : w ∈ lw_tbl := lt5_9_in (List.mem_of_mem_drop h)
def lt5_11 : List Cond := lt5_10.drop 16
theorem lt5_11_in {w : Cond} (h : w ∈ lt5_11) : w ∈ lw_tbl := lt5_10_in (List.mem_of_mem_drop h)
def lt5_12 : List Cond := lt5_11.drop 16
theorem lt5_12_in {w : Cond} (h : w ∈ lt5_12) : w ∈ lw_tbl := lt5_11_in (List.mem_of_mem_drop h)
def lt5_13 : List Cond := lt5_12.drop 16
theorem lt5_13_in {w : Cond} (h : w ∈ lt5_13) : w ∈ lw_tbl := lt5_12_in (List.mem_of_mem_drop h)
def lt5_14 : List Cond := lt5_13.drop 16
theorem lt5_14_in {w : Cond} (h : w ∈ lt5_14) : w ∈ lw_tbl := lt5_13_in (List.mem_of_mem_drop h)
def lt6_0 : List Cond := tables_1_6
theorem lt6_0_in {w : Cond} (h : w ∈ lt6_0) : w ∈ lw_tbl := List.mem_append_right _ (show w ∈ tables_1 from List.mem_append_right _ (List.mem_append_right _ (List.mem_append_right _ (List.mem_append_right _ (List.mem_append_right _ (List.mem_append_left _ h))))))
def lt6_1 : List Cond := lt6_0.drop 16
theorem lt6_1_in {w : Cond} (h : w ∈ lt6_1) : w ∈ lw_tbl := lt6_0_in (List.mem_of_mem_drop h)
def lt6_2 : List Cond := lt6_1.drop 16
theorem lt6_2_in {w : Cond} (h : w ∈ lt6_2) : w ∈ lw_tbl := lt6_1_in (List.mem_of_mem_drop h)
def lt6_3 : List Cond := lt6_2.drop 16
theorem lt6_3_in {w : Cond} (h : w ∈ lt6_3) : w ∈ lw_tbl := lt6_2_in (List.mem_of_mem_drop h)
def lt6_4 : List Cond := lt6_3.drop 16
theorem lt6_4_in {w : Cond} (h : w ∈ lt6_4) : w ∈ lw_tbl := lt6_3_in (List.mem_of_mem_drop h)
def lt6_5 : List Cond := lt6_4.drop 16
theorem lt6_5_in {w : Cond} (h : w ∈ lt6_5) : w ∈ lw_tbl := lt6_4_in (List.mem_of_mem_drop h)
def lt6_6 : List Cond := lt6_5.drop 16
theorem lt6_6_in {w : Cond} (h : w ∈ lt6_6) : w ∈ lw_tbl := lt6_5_in (List.mem_of_mem_drop h)
def lt6_7 : List Cond := lt6_6.drop 16
theorem lt6_7_in {w : Cond} (h : w ∈ lt6_7) : w ∈ lw_tbl := lt6_6_in (List.mem_of_mem_drop h)
def lt6_8 : List Cond := lt6_7.drop 16
theorem lt6_8_in {w : Cond} (h : w ∈ lt6_8) : w ∈ lw_tbl := lt6_7_in (List.mem_of_mem_drop h)
def lt6_9 : List Cond := lt6_8.drop 16
theorem lt6_9_in {w : Cond} (h : w ∈ lt6_9) : w ∈ lw_tbl := lt6_8_in (List.mem_of_mem_drop h)
def lt6_10 : List Cond := lt6_9.drop 16
theorem lt6_10_in {w : Cond} (h : w ∈ lt6_10) : w ∈ lw_tbl := lt6_9_in (List.mem_of_mem_drop h)
def lt6_11 : List Cond := lt6_10.drop 16
theorem lt6_11_in {w : Cond} (h : w ∈ lt6_11) : w ∈ lw_tbl := lt6_10_in (List.mem_of_mem_drop h)
def lt6_12 : List Cond := lt6_11.drop 16
theorem lt6_12_in {w : Cond} (h : w ∈ lt6_12) : w ∈ lw_tbl := lt6_11_in (List.mem_of_mem_drop h)
def lt6_13 : List Cond := lt6_12.drop 16
theorem lt6_13_in {w : Cond} (h : w ∈ lt6_13) : w ∈ lw_tbl := lt6_12_in (List.mem_of_mem_drop h)
def lt6_14 : List Cond := lt6_13.drop 16
theorem lt6_14_in {w : Cond} (h : w ∈ lt6_14) : w ∈ lw_tbl := lt6_13_in (List.mem_of_mem_drop h)
def lt7_0 : List Cond := tables_1_7
theorem lt7_0_in {w : Cond} (h : w ∈ lt7_0) : w ∈ lw_tbl := List.mem_append_right _ (show w ∈ tables_1 from List.mem_append_right _ (List.mem_append_right _ (List.mem_append_right _ (List.mem_append_right _ (List.mem_append_right _ (List.mem_append_right _ (List.mem_append_left _ h)))))))
def lt7_1 : List Cond := lt7_0.drop 16
theorem lt7_1_in {w : Cond} (h : w ∈ lt7_1) : w ∈ lw_tbl := lt7_0_in (List.mem_of_mem_drop h)
def lt7_2 : List Cond := lt7_1.drop 16
theorem lt7_2_in {w : Cond} (h : w ∈ lt7_2) : w ∈ lw_tbl := lt7_1_in (List.mem_of_mem_drop h)
def lt7_3 : List Cond := lt7_2.drop 16
theorem lt7_3_in {w : Cond} (h : w ∈ lt7_3) : w ∈ lw_tbl := lt7_2_in (List.mem_of_mem_drop h)
def lt7_4 : List Cond := lt7_3.drop 16
theorem lt7_4_in {w : Cond} (h : w ∈ lt7_4) : w ∈ lw_tbl := lt7_3_in (List.mem_of_mem_drop h)
def lt7_5 : List Cond := lt7_4.drop 16
theorem lt7_5_in {w : Cond} (h : w ∈ lt7_5) : w ∈ lw_tbl := lt7_4_in (List.mem_of_mem_drop h)
def lt7_6 : List Cond := lt7_5.drop 16
theorem lt7_6_in {w : Cond} (h : w ∈ lt7_6) : w ∈ lw_tbl := lt7_5_in (List.mem_of_mem_drop h)
def lt7_7 : List Cond := lt7_6.drop 16
theorem lt7_7_in {w : Cond} (h : w ∈ lt7_7) : w ∈ lw_tbl := lt7_6_in (List.mem_of_mem_drop h)
def lt7_8 : List Cond := lt7_7.drop 16
theorem lt7_8_in {w : Cond} (h : w ∈ lt7_8) : w ∈ lw_tbl := lt7_7_in (List.mem_of_mem_drop h)
def lt7_9 : List Cond := lt7_8.drop 16
theorem lt7_9_in {w : Cond} (h : w ∈ lt7_9) : w ∈ lw_tbl := lt7_8_in (List.mem_of_mem_drop h)
def lt7_10 : List Cond := lt7_9.drop 16
theorem lt7_10_in {w : Cond} (h : w ∈ lt7_10) : w ∈ lw_tbl := lt7_9_in (List.mem_of_mem_drop h)
def lt7_11 : List Cond := lt7_10.drop 16
theorem lt7_11_in {w : Cond} (h : w ∈ lt7_11) : w ∈ lw_tbl := lt7_10_in (List.mem_of_mem_drop h)
def lt7_12 : List Cond := lt7_11.drop 16
theorem lt7_12_in {w : Cond} (h : w ∈ lt7_12) : w ∈ lw_tbl := lt7_11_in (List.mem_of_mem_drop h)
def lt7_13 : List Cond := lt7_12.drop 16
theorem lt7_13_in {w : Cond} (h : w ∈ lt7_13) : w ∈ lw_tbl := lt7_12_in (List.mem_of_mem_drop h)
def lt7_14 : List Cond := lt7_13.drop 16
theorem lt7_14_in {w : Cond} (h : w ∈ lt7_14) : w ∈ lw_tbl := lt7_13_in (List.mem_of_mem_drop h)
def lt8_0 : List Cond := tables_1_8
theorem lt8_0_in {w : Cond} (h : w ∈ lt8_0) : w ∈ lw_tbl := List.mem_append_right _ (show w ∈ tables_1 from List.mem_append_right _ (List.mem_append_right _ (List.mem_append_right _ (List.mem_append_right _ (List.mem_append_right _ (List.mem_append_right _ (List.mem_append_right _ (h))))))))
def lt8_1 : List Cond := lt8_0.drop 16
theorem lt8_1_in {w : Cond} (h : w ∈ lt8_1) : w ∈ lw_tbl := lt8_0_in (List.mem_of_mem_drop h)
def lt8_2 : List Cond := lt8_1.drop 16
theorem lt8_2_in {w : Cond} (h : w ∈ lt8_2) : w ∈ lw_tbl := lt8_1_in (List.mem_of_mem_drop h)
def lt8_3 : List Cond := lt8_2.drop 16
theorem lt8_3_in {w : Cond} (h : w ∈ lt8_3) : w ∈ lw_tbl := lt8_2_in (List.mem_of_mem_drop h)
def lt8_4 : List Cond := lt8_3.drop 16
theorem lt8_4_in {w : Cond} (h : w ∈ lt8_4) : w ∈ lw_tbl := lt8_3_in (List.mem_of_mem_drop h)
def lt8_5 : List Cond := lt8_4.drop 16
theorem lt8_5_in {w : Cond} (h : w ∈ lt8_5) : w ∈ lw_tbl := lt8_4_in (List.mem_of_mem_drop h)
def lt8_6 : List Cond := lt8_5.drop 16
theorem lt8_6_in {w : Cond} (h : w ∈ lt8_6) : w ∈ lw_tbl := lt8_5_in (List.mem_of_mem_drop h)
def lt8_7 : List Cond := lt8_6.drop 16
theorem lt8_7_in {w : Cond} (h : w ∈ lt8_7) : w ∈ lw_tbl := lt8_6_in (List.mem_of_mem_drop h)
def lt8_8 : List Cond := lt8_7.drop 16
theorem lt8_8_in {w : Cond} (h : w ∈ lt8_8) : w ∈ lw_tbl := lt8_7_in (List.mem_of_mem_drop h)
def lt8_9 : List Cond := lt8_8.drop 16
theorem lt8_9_in {w : Cond} (h : w ∈ lt8_9) : w ∈ lw_tbl := lt8_8_in (List.mem_of_mem_drop h)
def lt8_10 : List Cond := lt8_9.drop 16
theorem lt8_10_in {w : Cond} (h : w ∈ lt8_10) : w ∈ lw_tbl := lt8_9_in (List.mem_of_mem_drop h)
def lw_at (i : Nat) : Option Cond := (cond (Nat.blt i 955) (cond (Nat.blt i 475) (cond (Nat.blt i 235) (cond (Nat.blt i 107) (cond (Nat.blt i 48) (cond (Nat.blt i 16) (ls_0[i - 0]?) (cond (Nat.blt i 32) (ls_1[i - 16]?) (ls_2[i - 32]?))) (cond (Nat.blt i 75) (cond (Nat.blt i 59) (ls_3[i - 48]?) (lt1_0[i - 59]?)) (cond (Nat.blt i 91) (lt1_1[i - 75]?) (lt1_2[i - 91]?)))) (cond (Nat.blt i 171) (cond (Nat.blt i 139) (cond (Nat.blt i 123) (lt1_3[i - 107]?) (lt1_4[i - 123]?)) (cond (Nat.blt i 155) (lt1_5[i - 139]?) (lt1_6[i - 155]?))) (cond (Nat.blt i 203) (cond (Nat.blt i 187) (lt1_7[i - 171]?) (lt1_8[i - 187]?)) (cond (Nat.blt i 219) (lt1_9[i - 203]?) (lt1_10[i - 219]?))))) (cond (Nat.blt i 347) (cond (Nat.blt i 283) (cond (Nat.blt i 251) (lt1_11[i - 235]?) (cond (Nat.blt i 267) (lt1_12[i - 251]?) (lt1_13[i - 267]?))) (cond (Nat.blt i 315) (cond (Nat.blt i 299) (lt1_14[i - 283]?) (lt2_0[i - 299]?)) (cond (Nat.blt i 331) (lt2_1[i - 315]?) (lt2_2[i - 331]?)))) (cond (Nat.blt i 411) (cond (Nat.blt i 379) (cond (Nat.blt i 363) (lt2_3[i - 347]?) (lt2_4[i - 363]?)) (cond (Nat.blt i 395) (lt2_5[i - 379]?) (lt2_6[i - 395]?))) (cond (Nat.blt i 443) (cond (Nat.blt i 427) (lt2_7[i - 411]?) (lt2_8[i - 427]?)) (cond (Nat.blt i 459) (lt2_9[i - 443]?) (lt2_10[i - 459]?)))))) (cond (Nat.blt i 715) (cond (Nat.blt i 587) (cond (Nat.blt i 523) (cond (Nat.blt i 491) (lt2_11[i - 475]?) (cond (Nat.blt i 507) (lt2_12[i - 491]?) (lt2_13[i - 507]?))) (cond (Nat.blt i 555) (cond (Nat.blt i 539) (lt2_14[i - 523]?) (lt3_0[i - 539]?)) (cond (Nat.blt i 571) (lt3_1[i - 555]?) (lt3_2[i - 571]?)))) (cond (Nat.blt i 651) (cond (Nat.blt i 619) (cond (Nat.blt i 603) (lt3_3[i - 587]?) (lt3_4[i - 603]?)) (cond (Nat.blt i 635) (lt3_5[i - 619]?) (lt3_6[i - 635]?))) (cond (Nat.blt i 683) (cond (Nat.blt i 667) (lt3_7[i - 651]?) (lt3_8[i - 667]?)) (cond (Nat.blt i 699) (lt3_9[i - 683]?) (lt3_10[i - 699]?))))) (cond (Nat.blt i 827) (cond (Nat.blt i 763) (cond (Nat.blt i 731) (lt3_11[i - 715]?) (cond (Nat.blt i 747) (lt3_12[i - 731]?) (lt3_13[i - 747]?))) (cond (Nat.blt i 795) (cond (Nat.blt i 779) (lt3_14[i - 763]?) (lt4_0[i - 779]?)) (cond (Nat.blt i 811) (lt4_1[i - 795]?) (lt4_2[i - 811]?)))) (cond (Nat.blt i 891) (cond (Nat.blt i 859) (cond (Nat.blt i 843) (lt4_3[i - 827]?) (lt4_4[i - 843]?)) (cond (Nat.blt i 875) (lt4_5[i - 859]?) (lt4_6[i - 875]?))) (cond (Nat.blt i 923) (cond (Nat.blt i 907) (lt4_7[i - 891]?) (lt4_8[i - 907]?)) (cond (Nat.blt i 939) (lt4_9[i - 923]?) (lt4_10[i - 939]?))))))) (cond (Nat.blt i 1435) (cond (Nat.blt i 1195) (cond (Nat.blt i 1067) (cond (Nat.blt i 1003) (cond (Nat.blt i 971) (lt4_11[i - 955]?) (cond (Nat.blt i 987) (lt4_12[i - 971]?) (lt4_13[i - 987]?))) (cond (Nat.blt i 1035) (cond (Nat.blt i 1019) (lt4_14[i - 1003]?) (lt5_0[i - 1019]?)) (cond (Nat.blt i 1051) (lt5_1[i - 1035]?) (lt5_2[i - 1051]?)))) (cond (Nat.blt i 1131) (cond (Nat.blt i 1099) (cond (Nat.blt i 1083) (lt5_3[i - 1067]?) (lt5_4[i - 1083]?)) (cond (Nat.blt i 1115) (lt5_5[i - 1099]?) (lt5_6[i - 1115]?))) (cond (Nat.blt i 1163) (cond (Nat.blt i 1147) (lt5_7[i - 1131]?) (lt5_8[i - 1147]?)) (cond (Nat.blt i 1179) (lt5_9[i - 1163]?) (lt5_10[i - 1179]?))))) (cond (Nat.blt i 1307) (cond (Nat.blt i 1243) (cond (Nat.blt i 1211) (lt5_11[i - 1195]?) (cond (Nat.blt i 1227) (lt5_12[i - 1211]?) (lt5_13[i - 1227]?))) (cond (Nat.blt i 1275) (cond (Nat.blt i 1259) (lt5_14[i - 1243]?) (lt6_0[i - 1259]?)) (cond (Nat.blt i 1291) (lt6_1[i - 1275]?) (lt6_2[i - 1291]?)))) (cond (Nat.blt i 1371) (cond (Nat.blt i 1339) (cond (Nat.blt i 1323) (lt6_3[i - 1307]?) (lt6_4[i - 1323]?)) (cond (Nat.blt i 1355) (lt6_5[i - 1339]?) (lt6_6[i - 1355]?))) (cond (Nat.blt i 1403) (cond (Nat.blt i 1387) (lt6_7[i - 1371]?) (lt6_8[i - 1387]?)) (cond (Nat.blt i 1419) (lt6_9[i - 1403]?) (lt6_10[i - 1419]?)))))) (cond (Nat.blt i 1675) (cond (Nat.blt i 1547) (cond (Nat.blt i 1483) (cond (Nat.blt i 1451) (lt6_11[i - 1435]?) (cond (Nat.blt i 1467) (lt6_12[i - 1451]?) (lt6_13[i - 1467]?))) (cond (Nat.blt i 1515) (cond (Nat.blt i 1499) (lt6_14[i - 1483]?) (lt7_0[i - 1499]?)) (cond (Nat.blt i 1531) (lt7_1[i - 1515]?) (lt7_2[i - 1531]?)))) (cond (Nat.blt i 1611) (cond (Nat.blt i 1579) (cond (Nat.blt i 1563) (lt7_3[i - 1547]?) (lt7_4[i - 1563]?)) (cond (Nat.blt i 1595) (lt7_5[i - 1579]?) (lt7_6[i - 1595]?))) (cond (Nat.blt i 1643) (cond (Nat.blt i 1627) (lt7_7[i - 1611]?) (lt7_8[i - 1627]?)) (cond (Nat.blt i 1659) (lt7_9[i - 1643]?) (lt7_10[i - 1659]?))))) (cond (Nat.blt i 1787) (cond (Nat.blt i 1723) (cond (Nat.blt i 1691) (lt7_11[i - 1675]?) (cond (Nat.blt i 1707) (lt7_12[i - 1691]?) (lt7_13[i - 1707]?))) (cond (Nat.blt i 1755) (cond (Nat.blt i 1739) (lt7_14[i - 1723]?) (lt8_0[i - 1739]?)) (cond (Nat.blt i 1771) (lt8_1[i - 1755]?) (lt8_2[i - 1771]?)))) (cond (Nat.blt i 1851) (cond (Nat.blt i 1819) (cond (Nat.blt i 1803) (lt8_3[i - 1787]?) (lt8_4[i - 1803]?)) (cond (Nat.blt i 1835) (lt8_5[i - 1819]?) (lt8_6[i - 1835]?))) (cond (Nat.blt i 1883) (cond (Nat.blt i 1867) (lt8_7[i - 1851]?) (lt8_8[i - 1867]?)) (cond (Nat.blt i 1899) (lt8_9[i - 1883]?) (lt8_10[i - 1899]?))))))))
set_option maxRecDepth 16384 in
theorem lw_at_in {i : Nat} {w : Cond} (h : lw_at i = some w) : w ∈ lw_tbl := by
  unfold lw_at at h
  exact cond_el h (fun h => cond_el h (fun h => cond_el h (fun h => cond_el h (fun h => cond_el h (fun h => cond_el h (fun h => ls_0_in (List.mem_of_getElem? h)) (fun h => cond_el h (fun h => ls_1_in (List.mem_of_getElem? h)) (fun h => ls_2_in (List.mem_of_getElem? h)))) (fun h => cond_el h (fun h => cond_el h (fun h => ls_3_in (List.mem_of_getElem? h)) (fun h => lt1_0_in (List.mem_of_getElem? h))) (fun h => cond_el h (fun h => lt1_1_in (List.mem_of_getElem? h)) (fun h => lt1_2_in (List.mem_of_getElem? h))))) (fun h => cond_el h (fun h => cond_el h (fun h => cond_el h (fun h => lt1_3_in (List.mem_of_getElem? h)) (fun h => lt1_4_in (List.mem_of_getElem? h))) (fun h => cond_el h (fun h => lt1_5_in (List.mem_of_getElem? h)) (fun h => lt1_6_in (List.mem_of_getElem? h)))) (fun h => cond_el h (fun h => cond_el h (fun h => lt1_7_in (List.mem_of_getElem? h)) (fun h => lt1_8_in (List.mem_of_getElem? h))) (fun h => cond_el h (fun h => lt1_9_in (List.mem_of_getElem? h)) (fun h => lt1_10_in (List.mem_of_getElem? h)))))) (fun h => cond_el h (fun h => cond_el h (fun h => cond_el h (fun h => lt1_11_in (List.mem_of_getElem? h)) (fun h => cond_el h (fun h => lt1_12_in (List.mem_of_getElem? h)) (fun h => lt1_13_in (List.mem_of_getElem? h)))) (fun h => cond_el h (fun h => cond_el h (fun h => lt1_14_in (List.mem_of_getElem? h)) (fun h => lt2_0_in (List.mem_of_getElem? h))) (fun h => cond_el h (fun h => lt2_1_in (List.mem_of_getElem? h)) (fun h => lt2_2_in (List.mem_of_getElem? h))))) (fun h => cond_el h (fun h => cond_el h (fun h => cond_el h (fun h => lt2_3_in (List.mem_of_getElem? h)) (fun h => lt2_4_in (List.mem_of_getElem? h))) (fun h => cond_el h (fun h => lt2_5_in (List.mem_of_getElem? h)) (fun h => lt2_6_in (List.mem_of_getElem? h)))) (fun h => cond_el h (fun h => cond_el h (fun h => lt2_7_in (List.mem_of_getElem? h)) (fun h => lt2_8_in (List.mem_of_getElem? h))) (fun h => cond_el h (fun h => lt2_9_in (List.mem_of_getElem? h)) (fun h => lt2_10_in (List.mem_of_getElem? h))))))) (fun h => cond_el h (fun h => cond_el h (fun h => cond_el h (fun h => cond_el h (fun h => lt2_11_in (List.mem_of_getElem? h)) (fun h => cond_el h (fun h => lt2_12_in (List.mem_of_getElem? h)) (fun h => lt2_13_in (List.mem_of_getElem? h)))) (fun h => cond_el h (fun h => cond_el h (fun h => lt2_14_in (List.mem_of_getElem? h)) (fun h => lt3_0_in (List.mem_of_getElem? h))) (fun h => cond_el h (fun h => lt3_1_in (List.mem_of_getElem? h)) (fun h => lt3_2_in (List.mem_of_getElem? h))))) (fun h => cond_el h (fun h => cond_el h (fun h => cond_el h (fun h => lt3_3_in (List.mem_of_getElem? h)) (fun h => lt3_4_in (List.mem_of_getElem? h))) (fun h => cond_el h (fun h => lt3_5_in (List.mem_of_getElem? h)) (fun h => lt3_6_in (List.mem_of_getElem? h)))) (fun h => cond_el h (fun h => cond_el h (fun h => lt3_7_in (List.mem_of_getElem? h)) (fun h => lt3_8_in (List.mem_of_getElem? h))) (fun h => cond_el h (fun h => lt3_9_in (List.mem_of_getElem? h)) (fun h => lt3_10_in (List.mem_of_getElem? h)))))) (fun h => cond_el h (fun h => cond_el h (fun h => cond_el h (fun h => lt3_11_in (List.mem_of_getElem? h)) (fun h => cond_el h (fun h => lt3_12_in (List.mem_of_getElem? h)) (fun h => lt3_13_in (List.mem_of_getElem? h)))) (fun h => cond_el h (fun h => cond_el h (fun h => lt3_14_in (List.mem_of_getElem? h)) (fun h => lt4_0_in (List.mem_of_getElem? h))) (fun h => cond_el h (fun h => lt4_1_in (List.mem_of_getElem? h)) (fun h => lt4_2_in (List.mem_of_getElem? h))))) (fun h => cond_el h (fun h => cond_el h (fun h => cond_el h (fun h => lt4_3_in (List.mem_of_getElem? h)) (fun h => lt4_4_in (List.mem_of_getElem? h))) (fun h => cond_el h (fun h => lt4_5_in (List.mem_of_getElem? h)) (fun h => lt4_6_in (List.mem_of_getElem? h)))) (fun h => cond_el h (fun h => cond_el h (fun h => lt4_7_in (List.mem_of_getElem? h)) (fun h => lt4_8_in (List.mem_of_getElem? h))) (fun h => cond_el h (fun h => lt4_9_in (List.mem_of_getElem? h)) (fun h => lt4_10_in (List.mem_of_getElem? h)))))))) (fun h => cond_el h (fun h => cond_el h (fun h => cond_el h (fun h => cond_el h (fun h => cond_el h (fun h => lt4_11_in (List.mem_of_getElem? h)) (fun h => cond_el h (fun h => lt4_12_in (List.mem_of_getElem? h)) (fun h => lt4_13_in (List.mem_of_getElem? h)))) (fun h => cond_el h (fun h => cond_el h (fun h => lt4_14_in (List.mem_of_getElem? h)) (fun h => lt5_0_in (List.mem_of_getElem? h))) (fun h => cond_el h (fun h => lt5_1_in (List.mem_of_getElem? h)) (fun h => lt5_2_in (List.mem_of_getElem? h))))) (fun h => cond_el h (fun h => cond_el h (fun h => cond_el h (fun h => lt5_3_in (List.mem_of_getElem? h)) (fun h => lt5_4_in (List.mem_of_getElem? h))) (fun h => cond_el h (fun h => lt5_5_in (List.mem_of_getElem? h)) (fun h => lt5_6_in (List.mem_of_getElem? h)))) (fun h => cond_el h (fun h => cond_el h (fun h => lt5_7_in (List.mem_of_getElem? h)) (fun h => lt5_8_in (List.mem_of_getElem? h))) (fun h => cond_el h (fun h => lt5_9_in (List.mem_of_getElem? h)) (fun h => lt5_10_in (List.mem_of_getElem? h)))))) (fun h => cond_el h (fun h => cond_el h (fun h => cond_el h (fun h => lt5_11_in (List.mem_of_getElem? h)) (fun h => cond_el h (fun h => lt5_12_in (List.mem_of_getElem? h)) (fun h => lt5_13_in (List.mem_of_getElem? h)))) (fun h => cond_el h (fun h => cond_el h (fun h => lt5_14_in (List.mem_of_getElem? h)) (fun h => lt6_0_in (List.mem_of_getElem? h))) (fun h => cond_el h (fun h => lt6_1_in (List.mem_of_getElem? h)) (fun h => lt6_2_in (List.mem_of_getElem? h))))) (fun h => cond_el h (fun h => cond_el h (fun h => cond_el h (fun h => lt6_3_in (List.mem_of_getElem? h)) (fun h => lt6_4_in (List.mem_of_getElem? h))) (fun h => cond_el h (fun h => lt6_5_in (List.mem_of_getElem? h)) (fun h => lt6_6_in (List.mem_of_getElem? h)))) (fun h => cond_el h (fun h => cond_el h (fun h => lt6_7_in (List.mem_of_getElem? h)) (fun h => lt6_8_in (List.mem_of_getElem? h))) (fun h => cond_el h (fun h => lt6_9_in (List.mem_of_getElem? h)) (fun h => lt6_10_in (List.mem_of_getElem? h))))))) (fun h => cond_el h (fun h => cond_el h (fun h => cond_el h (fun h => cond_el h (fun h => lt6_11_in (List.mem_of_getElem? h)) (fun h => cond_el h (fun h => lt6_12_in (List.mem_of_getElem? h)) (fun h => lt6_13_in (List.mem_of_getElem? h)))) (fun h => cond_el h (fun h => cond_el h (fun h => lt6_14_in (List.mem_of_getElem? h)) (fun h => lt7_0_in (List.mem_of_getElem? h))) (fun h => cond_el h (fun h => lt7_1_in (List.mem_of_getElem? h)) (fun h => lt7_2_in (List.mem_of_getElem? h))))) (fun h => cond_el h (fun h => cond_el h (fun h => cond_el h (fun h => lt7_3_in (List.mem_of_getElem? h)) (fun h => lt7_4_in (List.mem_of_getElem? h))) (fun h => cond_el h (fun h => lt7_5_in (List.mem_of_getElem? h)) (fun h => lt7_6_in (List.mem_of_getElem? h)))) (fun h => cond_el h (fun h => cond_el h (fun h => lt7_7_in (List.mem_of_getElem? h)) (fun h => lt7_8_in (List.mem_of_getElem? h))) (fun h => cond_el h (fun h => lt7_9_in (List.mem_of_getElem? h)) (fun h => lt7_10_in (List.mem_of_getElem? h)))))) (fun h => cond_el h (fun h => cond_el h (fun h => cond_el h (fun h => lt7_11_in (List.mem_of_getElem? h)) (fun h => cond_el h (fun h => lt7_12_in (List.mem_of_getElem? h)) (fun h => lt7_13_in (List.mem_of_getElem? h)))) (fun h => cond_el h (fun h => cond_el h (fun h => lt7_14_in (List.mem_of_getElem? h)) (fun h => lt8_0_in (List.mem_of_getElem? h))) (fun h => cond_el h (fun h => lt8_1_in (List.mem_of_getElem? h)) (fun h => lt8_2_in (List.mem_of_getElem? h))))) (fun h => cond_el h (fun h => cond_el h (fun h => cond_el h (fun h => lt8_3_in (List.mem_of_getElem? h)) (fun h => lt8_4_in (List.mem_of_getElem? h))) (fun h => cond_el h (fun h => lt8_5_in (List.mem_of_getElem? h)) (fun h => lt8_6_in (List.mem_of_getElem? h)))) (fun h => cond_el h (fun h => cond_el h (fun h => lt8_7_in (List.mem_of_getElem? h)) (fun h => lt8_8_in (List.mem_of_getElem? h))) (fun h => cond_el h (fun h => lt8_9_in (List.mem_of_getElem? h)) (fun h => lt8_10_in (List.mem_of_getElem? h))))))))
end

section
/-! THE SMALL MACHINE IS RIGHT OF THE LARGE ONE: what is shown of Ok holds of the JVM's own steps -/
/-- the words that every contract takes with it -/
def Wd : List Cond := (sbs ++ lw_tbl).filter goodWord
theorem Wd_in {w : Cond} (h : w ∈ Wd) : w ∈ sbs ∨ w ∈ lw_tbl := List.mem_append.mp (List.mem_filter.mp h).1
theorem Wd_good : ∀ w ∈ Wd, (w.onTables && w.keeps) = true ∨ ∃ ty, w = .arrayClass ty := fun _ h => good_of_word (List.mem_filter.mp h).2
theorem Wd_at {w : Cond} (i : Nat) (h : lw_at i = some w) (hg : goodWord w = true) : w ∈ Wd := List.mem_filter.mpr ⟨List.mem_append.mpr (Or.inr (lw_at_in h)), hg⟩
/-! locals -/
def prs (loc : List Value) : List (Nat × Value) := (List.range loc.length).filterMap (fun j => (loc[j]?).bind (fun v => if v = mk0 then none else some (j, v)))
theorem prs_mem {loc : List Value} {j : Nat} {w : Value} : (j, w) ∈ prs loc ↔ loc[j]? = some w ∧ w ≠ mk0 := by
  unfold prs
  rw [List.mem_filterMap]
  constructor
  · rintro ⟨i, hi, h⟩
    cases hl : loc[i]? with
    | none => rw [hl] at h; cases h
    | some v =>
      rw [hl] at h
      simp only [Option.bind_some] at h
      by_cases hv : v = mk0
      · rw [if_pos hv] at h; cases h
      · rw [if_neg hv] at h
        cases h
        exact ⟨hl, hv⟩
  · rintro ⟨h1, h2⟩
    refine ⟨j, List.mem_range.mpr (List.getElem?_eq_some_iff.mp h1).1, ?_⟩
    rw [h1]
    simp [h2]
def RL (n : Nat) (loc : List Value) (ls : Array Slot) : Prop := loc.length = n ∧ lv_has ls n (prs loc)
theorem RL.at {n i : Nat} {loc : List Value} {ls : Array Slot} {v : Value} (h : RL n loc ls) (hi : loc[i]? = some v) (hv : v ≠ mk0) : ls[i]? = some (.val v) := h.2.2.2 (i, v) (prs_mem.mpr ⟨hi, hv⟩)
theorem RL.size {n : Nat} {loc : List Value} {ls : Array Slot} (h : RL n loc ls) : ls.size = n := h.2.1
theorem fixp_len (l : List Value) (k : Nat) : (fixp l k).length = l.length := by
  unfold fixp
  cases k with
  | zero => rfl
  | succ j =>
    cases h : l[j]? with
    | none => simp only [h]
    | some v =>
      simp only [h]
      by_cases hv : v.category = 2
      · rw [if_pos hv, List.length_set]
      · rw [if_neg hv]
theorem fixp_at {l : List Value} {k j : Nat} {w : Value} (h : (fixp l k)[j]? = some w) (hw : w ≠ mk0) : l[j]? = some w ∧ ¬ (j + 1 = k ∧ w.category = 2) := by
  unfold fixp at h
  cases k with
  | zero => exact ⟨h, fun z => by omega⟩
  | succ i =>
    cases hi : l[i]? with
    | none =>
      simp only [hi] at h
      refine ⟨h, fun z => ?_⟩
      have : j = i := by omega
      subst this
      rw [hi] at h
      cases h
    | some v =>
      simp only [hi] at h
      by_cases hv : v.category = 2
      · rw [if_pos hv] at h
        by_cases hj : i = j
        · subst hj
          rw [List.getElem?_set_self (List.getElem?_eq_some_iff.mp hi).1] at h
          exact absurd (Option.some.inj h).symm hw
        · rw [List.getElem?_set_ne hj] at h
          exact ⟨h, fun z => hj (by omega)⟩
      · rw [if_neg hv] at h
        refine ⟨h, fun z => ?_⟩
        have : j = i := by omega
        subst this
        rw [hi] at h
        cases h
        exact hv z.2
theorem RL_st1 {n i : Nat} {loc : List Value} {ls' : Array Slot} {v : Value} (hn : loc.length = n) (hi : i < n) (h : lv_has ls' n ((i, v) :: (prs loc).filter (fun q => !(q.1 == i) && !(q.1 + 1 == i && q.2.category == 2)))) : RL n (st1 loc i v) ls' := by
  refine ⟨by rw [st1, List.length_set, fixp_len, hn], h.1, h.2.1, ?_⟩
  rintro ⟨j, w⟩ hq
  obtain ⟨h1, h2⟩ := prs_mem.mp hq
  by_cases hj : i = j
  · subst hj
    rw [st1, List.getElem?_set_self (by rw [fixp_len, hn]; exact hi)] at h1
    cases h1
    exact h.2.2 _ List.mem_cons_self
  · rw [st1, List.getElem?_set_ne hj] at h1
    obtain ⟨h3, h4⟩ := fixp_at h1 h2
    refine h.2.2 (j, w) (List.mem_cons_of_mem _ (List.mem_filter.mpr ⟨prs_mem.mpr ⟨h3, h2⟩, ?_⟩))
    have e1 : (j == i) = false := by simp; omega
    by_cases e2 : j + 1 = i
    · have e3 : ¬ w.category = 2 := fun z => h4 ⟨e2, z⟩
      simp [e1, e3]
    · simp [e1, e2]
theorem RL_st2 {n i : Nat} {loc : List Value} {ls' : Array Slot} {v : Value} (hn : loc.length = n) (hi : i + 1 < n) (h : lv_has ls' n ((i, v) :: (prs loc).filter (fun q => !(q.1 == i) && (!(q.1 == i + 1) && !(q.1 + 1 == i && q.2.category == 2))))) : RL n (st2 loc i v) ls' := by
  refine ⟨by rw [st2, List.length_set, List.length_set, fixp_len, hn], h.1, h.2.1, ?_⟩
  rintro ⟨j, w⟩ hq
  obtain ⟨h1, h2⟩ := prs_mem.mp hq
  by_cases hk : i + 1 = j
  · subst hk
    rw [st2, List.getElem?_set_self (by rw [List.length_set, fixp_len, hn]; exact hi)] at h1
    exact absurd (Option.some.inj h1).symm h2
  · rw [st2, List.getElem?_set_ne hk] at h1
    by_cases hj : i = j
    · subst hj
      rw [List.getElem?_set_self (by rw [fixp_len, hn]; omega)] at h1
      cases h1
      exact h.2.2 _ List.mem_cons_self
    · rw [List.getElem?_set_ne hj] at h1
      obtain ⟨h3, h4⟩ := fixp_at h1 h2
      refine h.2.2 (j, w) (List.mem_cons_of_mem _ (List.mem_filter.mpr ⟨prs_mem.mpr ⟨h3, h2⟩, ?_⟩))
      have e1 : (j == i) = false := by simp; omega
      have e4 : (j == i + 1) = false := by simp; omega
      by_cases e2 : j + 1 = i
      · have e3 : ¬ w.category = 2 := fun z => h4 ⟨e2, z⟩
        simp [e1, e4, e3]
      · simp [e1, e2, e4]
theorem ent_args {vs : List Value} : ∀ (k j : Nat) (w : Value), (ent vs)[j]? = some w → w ≠ mk0 → (k + j, w) ∈ lv_args k vs := by
  induction vs with
  | nil => intro k j w h; cases h
  | cons v vs ih =>
    intro k j w h hw
    unfold ent at h
    unfold lv_args
    by_cases hc : v.category = 2
    · rw [if_pos hc] at h ⊢
      match j, h with
      | 0, h => cases h; exact List.mem_cons_self
      | 1, h => cases h; exact absurd rfl hw
      | j + 2, h => exact List.mem_cons_of_mem _ (by rw [show k + (j + 2) = k + 2 + j by omega]; exact ih (k + 2) j w h hw)
    · rw [if_neg hc] at h ⊢
      match j, h with
      | 0, h => cases h; exact List.mem_cons_self
      | j + 1, h => exact List.mem_cons_of_mem _ (by rw [show k + (j + 1) = k + 1 + j by omega]; exact ih (k + 1) j w h hw)
theorem ent_sl (vs : List Value) : (lg_sl vs).length = (ent vs).length := by
  induction vs with
  | nil => rfl
  | cons v vs ih =>
    unfold ent lg_sl
    rw [List.flatMap_cons, List.length_append]
    by_cases hc : v.category = 2
    · rw [if_pos hc, if_pos hc]
      simp only [List.length_cons, List.length_nil]
      rw [show (List.flatMap (fun v => if v.category = 2 then [Slot.val v, Slot.second] else [Slot.val v]) vs).length = (ent vs).length from ih]
      omega
    · rw [if_neg hc, if_neg hc]
      simp only [List.length_cons, List.length_nil]
      rw [show (List.flatMap (fun v => if v.category = 2 then [Slot.val v, Slot.second] else [Slot.val v]) vs).length = (ent vs).length from ih]
      omega
theorem RL_entry {vs : List Value} {n : Nat} (h : (ent vs).length ≤ n) : RL n (entN n vs) ((lg_sl vs ++ List.replicate (n - (lg_sl vs).length) Slot.unset).toArray) := by
  have e := lv_entry vs (n := n) (by rw [ent_sl]; exact h)
  refine ⟨by rw [entN, List.length_append, List.length_replicate]; omega, e.1, e.2.1, ?_⟩
  rintro ⟨j, w⟩ hq
  obtain ⟨h1, h2⟩ := prs_mem.mp hq
  refine e.2.2 (j, w) ?_
  have h3 : (ent vs)[j]? = some w := by
    unfold entN at h1
    by_cases hj : j < (ent vs).length
    · rw [List.getElem?_append_left hj] at h1
      exact h1
    · rw [List.getElem?_append_right (by omega)] at h1
      exact absurd (List.eq_of_mem_replicate (List.mem_of_getElem? h1)) h2
  have := ent_args 0 j w h3 h2
  rwa [Nat.zero_add] at this
/-! memory and heap -/
def fv (h : MH) (a t k : Nat) : Value := if fkd t k = 1 then .long (g_l h a k) else if fkd t k = 2 then va_rf (g_r h a k) else .int (g_i h a k)
def arO (h : MH) (a t : Nat) : vp_A := (g_n h a, if t = 102 then .inr (.inl (g_l h a)) else if t = 106 then .inr (.inr (.inr (.inr (g_r h a)))) else .inl (g_i h a))
def cellR (D : va_G) (cA : Nat → ClassId) (h : MH) (a : Nat) (H : Heap) : Prop :=
  (g_c h a ≤ 100 → ∃ r, cls[g_c h a - 1]? = some r ∧ t_OB a (D.1 (g_c h a - 1)) r.2.2 (D.2 (g_c h a - 1)) H (fv h a (g_c h a))) ∧
  (¬ g_c h a ≤ 100 → g_c h a ≤ 106 ∧ H[a]? = some (vp_cell (cA (g_c h a)) (arO h a (g_c h a)))) ∧
  (g_c h a = 103 → ∀ j, fits .byte (.int (g_i h a j)) = true)
def tysW (cA : Nat → ClassId) : List (ClassId × FieldType) := [(cA 101, .int), (cA 102, .long), (cA 103, .byte), (cA 104, .char), (cA 105, .boolean), (cA 106, .object "SluiceshelfModel$Pane")]
/-- the heap holds the memory: above the first address of the run its cells; below it the constants, as they were -/
def Rel (base : Nat) (D : va_G) (cA : Nat → ClassId) (h0 h : MH) (H : Heap) : Prop :=
  g_t h = H.size ∧ g_z h = base ∧ base ≤ H.size ∧ g_z h0 = base ∧ (∀ j, g_a h j = g_a h0 j) ∧
  (∀ a, a < base → g_c h a = g_c h0 a ∧ g_n h a = g_n h0 a ∧ (∀ k, g_i h a k = g_i h0 a k) ∧ ∀ k, g_r h a k = g_r h0 a k) ∧
  ∀ a, base ≤ a → g_c h a ≠ 0 → cellR D cA h a H
abbrev Ab (base : Nat) : Nat → Prop := fun q => base ≤ q
/-- a constant: a String, or a row of bytes, outside of what the run may change -/
def cstR (base : Nat) (h0 : MH) (a : Nat) (U : State) (H : Heap) : Prop :=
  (g_c h0 a = 11 ∧ va_O "java/lang/String" a (Ab base) U H ∧ (∃ v, g_r h0 a 0 = some v ∧ va_OF "java/lang/String" "value" "[B" (.ref v) a (Ab base) U H) ∧ va_OF "java/lang/String" "coder" "B" (.int (g_i h0 a 1)) a (Ab base) U H) ∨
  (g_c h0 a = 103 ∧ va_T .byte a (g_n h0 a) (fun j => .int (g_i h0 a j)) (Ab base) U H ∧ ∀ j, fits .byte (.int (g_i h0 a j)) = true) ∨
  (g_c h0 a = 107 ∧ va_X a (g_n h0 a) (g_i h0 a) U H ∧ a < base)
/-- what stays all the run: the classes, statics, Strings -/
def gsv (h : MH) : Int32 ⊕ Nat → Value
  | .inl v => .int v
  | .inr j => .ref (g_a h j)
def nstW : Cond → Bool
  | .fieldLinkNest .. => true
  | .methodLinkNest .. => true
  | .castable .. => true
  | .declares .. => true
  | _ => false
theorem nstW_warm {w : Cond} {s U : State} (hw : nstW w = true) (hW : s.WarmedH U.vm) (h : va_Nw w s) : va_Nw w U := by
  cases w <;> first | (cases hw; done) | exact va_Nw.warmF hW h | exact va_Nw.warmM hW h | exact va_Nw.warmC hW h | exact va_Nw.warmD hW h
def SF (base : Nat) (D : va_G) (cA : Nat → ClassId) (h0 : MH) (U : State) (H : Heap) : Prop :=
  va_K D cls (tysW cA) U ∧ (∀ a, a < base → g_c h0 a ≠ 0 → cstR base h0 a U H) ∧
  (∀ e ∈ tG_l, va_Z e.2.2.1 e.2.2.2.1 e.2.2.2.2.1 (gsv h0 e.2.1) (Ab base) U H) ∧
  (∀ e ∈ tS_l, vk_R e.1 e.2.1 e.2.2.1 (g_a h0 e.2.2.2) U) ∧
  vx_Zq Bundle.tN "UNASSIGNED_STACK" Bundle.steD (Ab base) U H ∧ vx_Zq Bundle.tN "SUPPRESSED_SENTINEL" Bundle.listD (Ab base) U H ∧
  (∀ w ∈ lw_tbl, nstW w = true → va_Nw w U) ∧ va_AO "SluiceshelfModel$Pane" U ∧ (∀ i ∈ [1, 2, 3], ∀ j ∈ [1, 2, 3], i ≠ j → va_Nc (exN i) (exN j) U)
theorem cstR.moved {base : Nat} {h0 : MH} {a : Nat} {u U : State} {H : Heap} (hvm : u.vm.Alike U.vm) (h : cstR base h0 a u H) : cstR base h0 a U H := by
  rcases h with ⟨h1, h2, ⟨v, h3, h4⟩, h5⟩ | ⟨h1, h2, h3⟩ | ⟨h1, h2, h3⟩
  · exact Or.inl ⟨h1, h2.moved hvm, ⟨v, h3, h4.moved hvm⟩, h5.moved hvm⟩
  · exact Or.inr (Or.inl ⟨h1, h2.moved hvm, h3⟩)
  · exact Or.inr (Or.inr ⟨h1, h2.moved hvm, h3⟩)
theorem cstR.kept {base : Nat} {h0 : MH} {a : Nat} {U : State} {H H1 : Heap} (h : cstR base h0 a U H) (hq : ∀ q : Nat, q < H.size → ¬ Ab base q → H1[q]? = H[q]?) : cstR base h0 a U H1 := by
  rcases h with ⟨h1, h2, ⟨v, h3, h4⟩, h5⟩ | ⟨h1, h2, h3⟩ | ⟨h1, h2, h3⟩
  · exact Or.inl ⟨h1, h2.kept hq, ⟨v, h3, h4.kept hq⟩, h5.kept hq⟩
  · exact Or.inr (Or.inl ⟨h1, h2.kept hq, h3⟩)
  · refine Or.inr (Or.inr ⟨h1, h2.kept (hq a ?_ (fun z => by have : base ≤ a := z; omega)), h3⟩)
    obtain ⟨scr, e1, -⟩ := h2
    exact (Array.getElem?_eq_some_iff.mp e1).1
theorem SF.go {base : Nat} {D : va_G} {cA : Nat → ClassId} {h0 : MH} {u U : State} {H H1 : Heap} (h : SF base D cA h0 u H) (hW : u.WarmedH U.vm) (hq : ∀ q : Nat, q < H.size → ¬ Ab base q → H1[q]? = H[q]?) : SF base D cA h0 U H1 := by
  obtain ⟨h1, h2, h3, h4, h5, h6, h7, h8, h9⟩ := h
  exact ⟨h1.moved hW.alike, fun a ha hc => ((h2 a ha hc).moved hW.alike).kept hq, fun e he => ((h3 e he).moved hW.alike).kept hq, fun e he => (h4 e he).warm hW, (h5.moved hW.alike).kept hq, (h6.moved hW.alike).kept hq, fun w hw hn => nstW_warm hn hW (h7 w hw hn), va_AO.moved hW.alike h8, fun i hi j hj n => (h9 i hi j hj n).moved hW.alike⟩
/-! one situation of a method's body -/
def fit0 (l : Launch) (base : Nat) (D : va_G) (cA : Nat → ClassId) (h0 : MH) (Y : Nat) (p : Program) (R : Room) (s : State) (m : MethodId) (args : Array Value) (meth : Method) (c : Code) (mc ms : Nat) : Prop :=
  (p.tables.exec = Jvm.exec ∧ c.code = tb_b Y) ∧ (c.maxLocals = tb_m Y ∧ meth.sig.returnType = tb_r Y ∧ s.vm.findClass (cn (tb_o Y)) = some m.cls ∧ (∀ w ∈ Wd, w.before args s = true)) ∧
  (meth.locks = false ∧ (tb_i Y = 1 → meth.name = "<init>") ∧ SF base D cA h0 s s.heap ∧ base ≤ s.heap.size ∧ l.stackTraces = false) ∧
  (tb_d Y ≤ R.frames ∧ 40 * tb_d Y ≤ R.locals ∧ mc ≤ R.cells ∧ ms ≤ R.slots) ∧ 11 ≤ tb_d Y ∧ c.exceptionTable.toList = tableOf (hhY Y)
def QcO (base : Nat) (D : va_G) (cA : Nat → ClassId) (h0 : MH) (Q : MR → MH → Prop) : Array Value → State → Outcome → State → Prop := fun _ st o t =>
  ∃ (v : Option Value) (h' : MH), o = .returned v ∧ Q (.inl v) h' ∧ Rel base D cA h0 h' t.heap ∧ va_F (Ab base) st t
def XcO (base : Nat) (D : va_G) (cA : Nat → ClassId) (h0 : MH) (Q : MR → MH → Prop) : String → State → State → Prop := fun E st t =>
  ∃ (En : Nat) (h' : MH), exN En = E ∧ Q (.inr En) h' ∧ Rel base D cA h0 h' t.heap ∧ va_F (Ab base) st t
def SX (l : Launch) (base : Nat) (D : va_G) (cA : Nat → ClassId) (h0 : MH) : MX := fun Y pc loc stk h bc bs Q =>
  ∀ (p : Program) (e : Env) (R : Room) (s : State) (m : MethodId) (args : Array Value) (below : List Frame) (meth : Method) (c : Code) (H : Heap) (locs : List Loc) (cells slots mc ms : Nat) (ls : Array Slot),
    fit0 l base D cA h0 Y p R s m args meth c mc ms → cells + bc ≤ mc → slots + bs ≤ ms → RL (tb_m Y) loc ls → Rel base D cA h0 h H → va_S (Ab base) s.heap H locs →
    W p l e R s m args below meth c H locs cells slots (vx_MQ below (QcO base D cA h0 Q) (XcO base D cA h0 Q) args s mc ms (Ab base)) (F0 m pc ls stk)
end

section
section SXA
variable {l : Launch} {base : Nat} {D : va_G} {cA : Nat → ClassId} {h0 : MH}
variable {Y pc : Nat} {loc stk : List Value} {h : MH} {bc bs : Nat} {Q : MR → MH → Prop}
theorem jmp_eq {pc : Nat} {o : Int} (h : 0 ≤ (pc : Int) + o) : (pc : Int) + o = (jmp pc o : Nat) := by unfold jmp; omega
theorem sx_iconst {n : Int} (hd : decode (tb_b Y) pc = .ok (.iconst n, 1)) (k : SX l base D cA h0 Y (pc + 1) loc (.int (Int32.ofInt n) :: stk) h bc bs Q) : SX l base D cA h0 Y pc loc (stk) h bc bs Q :=
  fun p e R s m args below meth c H locs cells slots mc ms ls S h1 h2 hl hr hs => lv_iconst S.1.1 S.1.2 hd rfl (k _ _ _ _ _ _ _ _ _ _ _ _ _ _ _ _ S h1 h2 hl hr hs)
theorem sx_bipush {n : Int} (hd : decode (tb_b Y) pc = .ok (.bipush n, 2)) (k : SX l base D cA h0 Y (pc + 2) loc (.int (Int8.ofInt n).toInt32 :: stk) h bc bs Q) : SX l base D cA h0 Y pc loc (stk) h bc bs Q :=
  fun p e R s m args below meth c H locs cells slots mc ms ls S h1 h2 hl hr hs => lv_bipush S.1.1 S.1.2 hd rfl (k _ _ _ _ _ _ _ _ _ _ _ _ _ _ _ _ S h1 h2 hl hr hs)
theorem sx_sipush {n : Int} (hd : decode (tb_b Y) pc = .ok (.sipush n, 3)) (k : SX l base D cA h0 Y (pc + 3) loc (.int (Int16.ofInt n).toInt32 :: stk) h bc bs Q) : SX l base D cA h0 Y pc loc (stk) h bc bs Q :=
  fun p e R s m args below meth c H locs cells slots mc ms ls S h1 h2 hl hr hs => lv_sipush S.1.1 S.1.2 hd rfl (k _ _ _ _ _ _ _ _ _ _ _ _ _ _ _ _ S h1 h2 hl hr hs)
theorem sx_lconst {n : Fin 2} (hd : decode (tb_b Y) pc = .ok (.lconst n, 1)) (k : SX l base D cA h0 Y (pc + 1) loc (.long (Int64.ofNat (n : Nat)) :: stk) h bc bs Q) : SX l base D cA h0 Y pc loc (stk) h bc bs Q :=
  fun p e R s m args below meth c H locs cells slots mc ms ls S h1 h2 hl hr hs => lv_lconst S.1.1 S.1.2 hd rfl (k _ _ _ _ _ _ _ _ _ _ _ _ _ _ _ _ S h1 h2 hl hr hs)
theorem sx_null  (hd : decode (tb_b Y) pc = .ok (.aconst_null, 1)) (k : SX l base D cA h0 Y (pc + 1) loc (.null :: stk) h bc bs Q) : SX l base D cA h0 Y pc loc (stk) h bc bs Q :=
  fun p e R s m args below meth c H locs cells slots mc ms ls S h1 h2 hl hr hs => lv_null S.1.1 S.1.2 hd (k _ _ _ _ _ _ _ _ _ _ _ _ _ _ _ _ S h1 h2 hl hr hs)
theorem sx_iadd {x y : Int32} (hd : decode (tb_b Y) pc = .ok (.iadd, 1)) (k : SX l base D cA h0 Y (pc + 1) loc (.int (x + y) :: stk) h bc bs Q) : SX l base D cA h0 Y pc loc (.int y :: .int x :: stk) h bc bs Q :=
  fun p e R s m args below meth c H locs cells slots mc ms ls S h1 h2 hl hr hs => lv_iadd S.1.1 S.1.2 hd (k _ _ _ _ _ _ _ _ _ _ _ _ _ _ _ _ S h1 h2 hl hr hs)
theorem sx_isub {x y : Int32} (hd : decode (tb_b Y) pc = .ok (.isub, 1)) (k : SX l base D cA h0 Y (pc + 1) loc (.int (x - y) :: stk) h bc bs Q) : SX l base D cA h0 Y pc loc (.int y :: .int x :: stk) h bc bs Q :=
  fun p e R s m args below meth c H locs cells slots mc ms ls S h1 h2 hl hr hs => lv_isub S.1.1 S.1.2 hd (k _ _ _ _ _ _ _ _ _ _ _ _ _ _ _ _ S h1 h2 hl hr hs)
theorem sx_imul {x y : Int32} (hd : decode (tb_b Y) pc = .ok (.imul, 1)) (k : SX l base D cA h0 Y (pc + 1) loc (.int (x * y) :: stk) h bc bs Q) : SX l base D cA h0 Y pc loc (.int y :: .int x :: stk) h bc bs Q :=
  fun p e R s m args below meth c H locs cells slots mc ms ls S h1 h2 hl hr hs => lv_imul S.1.1 S.1.2 hd (k _ _ _ _ _ _ _ _ _ _ _ _ _ _ _ _ S h1 h2 hl hr hs)
theorem sx_iand {x y : Int32} (hd : decode (tb_b Y) pc = .ok (.iand, 1)) (k : SX l base D cA h0 Y (pc + 1) loc (.int (x &&& y) :: stk) h bc bs Q) : SX l base D cA h0 Y pc loc (.int y :: .int x :: stk) h bc bs Q :=
  fun p e R s m args below meth c H locs cells slots mc ms ls S h1 h2 hl hr hs => lv_iand S.1.1 S.1.2 hd (k _ _ _ _ _ _ _ _ _ _ _ _ _ _ _ _ S h1 h2 hl hr hs)
theorem sx_ior {x y : Int32} (hd : decode (tb_b Y) pc = .ok (.ior, 1)) (k : SX l base D cA h0 Y (pc + 1) loc (.int (x ||| y) :: stk) h bc bs Q) : SX l base D cA h0 Y pc loc (.int y :: .int x :: stk) h bc bs Q :=
  fun p e R s m args below meth c H locs cells slots mc ms ls S h1 h2 hl hr hs => lv_ior S.1.1 S.1.2 hd (k _ _ _ _ _ _ _ _ _ _ _ _ _ _ _ _ S h1 h2 hl hr hs)
theorem sx_ixor {x y : Int32} (hd : decode (tb_b Y) pc = .ok (.ixor, 1)) (k : SX l base D cA h0 Y (pc + 1) loc (.int (x ^^^ y) :: stk) h bc bs Q) : SX l base D cA h0 Y pc loc (.int y :: .int x :: stk) h bc bs Q :=
  fun p e R s m args below meth c H locs cells slots mc ms ls S h1 h2 hl hr hs => lv_ixor S.1.1 S.1.2 hd (k _ _ _ _ _ _ _ _ _ _ _ _ _ _ _ _ S h1 h2 hl hr hs)
theorem sx_ishl {x y : Int32} (hd : decode (tb_b Y) pc = .ok (.ishl, 1)) (k : SX l base D cA h0 Y (pc + 1) loc (.int (x <<< (y &&& 31)) :: stk) h bc bs Q) : SX l base D cA h0 Y pc loc (.int y :: .int x :: stk) h bc bs Q :=
  fun p e R s m args below meth c H locs cells slots mc ms ls S h1 h2 hl hr hs => lv_ishl S.1.1 S.1.2 hd (k _ _ _ _ _ _ _ _ _ _ _ _ _ _ _ _ S h1 h2 hl hr hs)
theorem sx_ishr {x y : Int32} (hd : decode (tb_b Y) pc = .ok (.ishr, 1)) (k : SX l base D cA h0 Y (pc + 1) loc (.int (x >>> (y &&& 31)) :: stk) h bc bs Q) : SX l base D cA h0 Y pc loc (.int y :: .int x :: stk) h bc bs Q :=
  fun p e R s m args below meth c H locs cells slots mc ms ls S h1 h2 hl hr hs => lv_ishr S.1.1 S.1.2 hd (k _ _ _ _ _ _ _ _ _ _ _ _ _ _ _ _ S h1 h2 hl hr hs)
theorem sx_iushr {x y : Int32} (hd : decode (tb_b Y) pc = .ok (.iushr, 1)) (k : SX l base D cA h0 Y (pc + 1) loc (.int ((x.toUInt32 >>> (y.toUInt32 &&& Int32.toUInt32 31)).toInt32) :: stk) h bc bs Q) : SX l base D cA h0 Y pc loc (.int y :: .int x :: stk) h bc bs Q :=
  fun p e R s m args below meth c H locs cells slots mc ms ls S h1 h2 hl hr hs => lv_iushr S.1.1 S.1.2 hd rfl (k _ _ _ _ _ _ _ _ _ _ _ _ _ _ _ _ S h1 h2 hl hr hs)
theorem sx_idiv {x y : Int32} (hy : ¬ y = 0) (hd : decode (tb_b Y) pc = .ok (.idiv, 1)) (k : SX l base D cA h0 Y (pc + 1) loc (.int (x / y) :: stk) h bc bs Q) : SX l base D cA h0 Y pc loc (.int y :: .int x :: stk) h bc bs Q :=
  fun p e R s m args below meth c H locs cells slots mc ms ls S h1 h2 hl hr hs => lv_idiv S.1.1 S.1.2 hd hy (k _ _ _ _ _ _ _ _ _ _ _ _ _ _ _ _ S h1 h2 hl hr hs)
theorem sx_irem {x y : Int32} (hy : ¬ y = 0) (hd : decode (tb_b Y) pc = .ok (.irem, 1)) (k : SX l base D cA h0 Y (pc + 1) loc (.int (x - x / y * y) :: stk) h bc bs Q) : SX l base D cA h0 Y pc loc (.int y :: .int x :: stk) h bc bs Q :=
  fun p e R s m args below meth c H locs cells slots mc ms ls S h1 h2 hl hr hs => lv_irem S.1.1 S.1.2 hd hy (k _ _ _ _ _ _ _ _ _ _ _ _ _ _ _ _ S h1 h2 hl hr hs)
theorem sx_ladd {x y : Int64} (hd : decode (tb_b Y) pc = .ok (.ladd, 1)) (k : SX l base D cA h0 Y (pc + 1) loc (.long (x + y) :: stk) h bc bs Q) : SX l base D cA h0 Y pc loc (.long y :: .long x :: stk) h bc bs Q :=
  fun p e R s m args below meth c H locs cells slots mc ms ls S h1 h2 hl hr hs => lv_ladd S.1.1 S.1.2 hd (k _ _ _ _ _ _ _ _ _ _ _ _ _ _ _ _ S h1 h2 hl hr hs)
theorem sx_lsub {x y : Int64} (hd : decode (tb_b Y) pc = .ok (.lsub, 1)) (k : SX l base D cA h0 Y (pc + 1) loc (.long (x - y) :: stk) h bc bs Q) : SX l base D cA h0 Y pc loc (.long y :: .long x :: stk) h bc bs Q :=
  fun p e R s m args below meth c H locs cells slots mc ms ls S h1 h2 hl hr hs => lv_lsub S.1.1 S.1.2 hd (k _ _ _ _ _ _ _ _ _ _ _ _ _ _ _ _ S h1 h2 hl hr hs)
theorem sx_lmul {x y : Int64} (hd : decode (tb_b Y) pc = .ok (.lmul, 1)) (k : SX l base D cA h0 Y (pc + 1) loc (.long (x * y) :: stk) h bc bs Q) : SX l base D cA h0 Y pc loc (.long y :: .long x :: stk) h bc bs Q :=
  fun p e R s m args below meth c H locs cells slots mc ms ls S h1 h2 hl hr hs => lv_lmul S.1.1 S.1.2 hd (k _ _ _ _ _ _ _ _ _ _ _ _ _ _ _ _ S h1 h2 hl hr hs)
theorem sx_land {x y : Int64} (hd : decode (tb_b Y) pc = .ok (.land, 1)) (k : SX l base D cA h0 Y (pc + 1) loc (.long (x &&& y) :: stk) h bc bs Q) : SX l base D cA h0 Y pc loc (.long y :: .long x :: stk) h bc bs Q :=
  fun p e R s m args below meth c H locs cells slots mc ms ls S h1 h2 hl hr hs => lv_land S.1.1 S.1.2 hd (k _ _ _ _ _ _ _ _ _ _ _ _ _ _ _ _ S h1 h2 hl hr hs)
theorem sx_lor {x y : Int64} (hd : decode (tb_b Y) pc = .ok (.lor, 1)) (k : SX l base D cA h0 Y (pc + 1) loc (.long (x ||| y) :: stk) h bc bs Q) : SX l base D cA h0 Y pc loc (.long y :: .long x :: stk) h bc bs Q :=
  fun p e R s m args below meth c H locs cells slots mc ms ls S h1 h2 hl hr hs => lv_lor S.1.1 S.1.2 hd (k _ _ _ _ _ _ _ _ _ _ _ _ _ _ _ _ S h1 h2 hl hr hs)
theorem sx_lxor {x y : Int64} (hd : decode (tb_b Y) pc = .ok (.lxor, 1)) (k : SX l base D cA h0 Y (pc + 1) loc (.long (x ^^^ y) :: stk) h bc bs Q) : SX l base D cA h0 Y pc loc (.long y :: .long x :: stk) h bc bs Q :=
  fun p e R s m args below meth c H locs cells slots mc ms ls S h1 h2 hl hr hs => lv_lxor S.1.1 S.1.2 hd (k _ _ _ _ _ _ _ _ _ _ _ _ _ _ _ _ S h1 h2 hl hr hs)
theorem sx_ldiv {x y : Int64} (hy : ¬ y = 0) (hd : decode (tb_b Y) pc = .ok (.ldiv, 1)) (k : SX l base D cA h0 Y (pc + 1) loc (.long (x / y) :: stk) h bc bs Q) : SX l base D cA h0 Y pc loc (.long y :: .long x :: stk) h bc bs Q :=
  fun p e R s m args below meth c H locs cells slots mc ms ls S h1 h2 hl hr hs => lv_ldiv S.1.1 S.1.2 hd hy (k _ _ _ _ _ _ _ _ _ _ _ _ _ _ _ _ S h1 h2 hl hr hs)
theorem sx_lrem {x y : Int64} (hy : ¬ y = 0) (hd : decode (tb_b Y) pc = .ok (.lrem, 1)) (k : SX l base D cA h0 Y (pc + 1) loc (.long (x - x / y * y) :: stk) h bc bs Q) : SX l base D cA h0 Y pc loc (.long y :: .long x :: stk) h bc bs Q :=
  fun p e R s m args below meth c H locs cells slots mc ms ls S h1 h2 hl hr hs => lv_lrem S.1.1 S.1.2 hd hy (k _ _ _ _ _ _ _ _ _ _ _ _ _ _ _ _ S h1 h2 hl hr hs)
theorem sx_lshl {x : Int64} {y : Int32} (hd : decode (tb_b Y) pc = .ok (.lshl, 1)) (k : SX l base D cA h0 Y (pc + 1) loc (.long (x <<< (y.toInt64 &&& 63)) :: stk) h bc bs Q) : SX l base D cA h0 Y pc loc (.int y :: .long x :: stk) h bc bs Q :=
  fun p e R s m args below meth c H locs cells slots mc ms ls S h1 h2 hl hr hs => lv_lshl S.1.1 S.1.2 hd rfl (k _ _ _ _ _ _ _ _ _ _ _ _ _ _ _ _ S h1 h2 hl hr hs)
theorem sx_lshr {x : Int64} {y : Int32} (hd : decode (tb_b Y) pc = .ok (.lshr, 1)) (k : SX l base D cA h0 Y (pc + 1) loc (.long (x >>> (y.toInt64 &&& 63)) :: stk) h bc bs Q) : SX l base D cA h0 Y pc loc (.int y :: .long x :: stk) h bc bs Q :=
  fun p e R s m args below meth c H locs cells slots mc ms ls S h1 h2 hl hr hs => lv_lshr S.1.1 S.1.2 hd rfl (k _ _ _ _ _ _ _ _ _ _ _ _ _ _ _ _ S h1 h2 hl hr hs)
theorem sx_lushr {x : Int64} {y : Int32} (hd : decode (tb_b Y) pc = .ok (.lushr, 1)) (k : SX l base D cA h0 Y (pc + 1) loc (.long ((x.toUInt64 >>> (y.toInt64.toUInt64 &&& Int64.toUInt64 63)).toInt64) :: stk) h bc bs Q) : SX l base D cA h0 Y pc loc (.int y :: .long x :: stk) h bc bs Q :=
  fun p e R s m args below meth c H locs cells slots mc ms ls S h1 h2 hl hr hs => lv_lushr S.1.1 S.1.2 hd rfl (k _ _ _ _ _ _ _ _ _ _ _ _ _ _ _ _ S h1 h2 hl hr hs)
theorem sx_ineg {x : Int32} (hd : decode (tb_b Y) pc = .ok (.ineg, 1)) (k : SX l base D cA h0 Y (pc + 1) loc (.int (-x) :: stk) h bc bs Q) : SX l base D cA h0 Y pc loc (.int x :: stk) h bc bs Q :=
  fun p e R s m args below meth c H locs cells slots mc ms ls S h1 h2 hl hr hs => lv_ineg S.1.1 S.1.2 hd (k _ _ _ _ _ _ _ _ _ _ _ _ _ _ _ _ S h1 h2 hl hr hs)
theorem sx_i2l {x : Int32} (hd : decode (tb_b Y) pc = .ok (.i2l, 1)) (k : SX l base D cA h0 Y (pc + 1) loc (.long x.toInt64 :: stk) h bc bs Q) : SX l base D cA h0 Y pc loc (.int x :: stk) h bc bs Q :=
  fun p e R s m args below meth c H locs cells slots mc ms ls S h1 h2 hl hr hs => lv_i2l S.1.1 S.1.2 hd rfl (k _ _ _ _ _ _ _ _ _ _ _ _ _ _ _ _ S h1 h2 hl hr hs)
theorem sx_i2b {x : Int32} (hd : decode (tb_b Y) pc = .ok (.i2b, 1)) (k : SX l base D cA h0 Y (pc + 1) loc (.int x.toInt8.toInt32 :: stk) h bc bs Q) : SX l base D cA h0 Y pc loc (.int x :: stk) h bc bs Q :=
  fun p e R s m args below meth c H locs cells slots mc ms ls S h1 h2 hl hr hs => lv_i2b S.1.1 S.1.2 hd rfl (k _ _ _ _ _ _ _ _ _ _ _ _ _ _ _ _ S h1 h2 hl hr hs)
theorem sx_i2s {x : Int32} (hd : decode (tb_b Y) pc = .ok (.i2s, 1)) (k : SX l base D cA h0 Y (pc + 1) loc (.int x.toInt16.toInt32 :: stk) h bc bs Q) : SX l base D cA h0 Y pc loc (.int x :: stk) h bc bs Q :=
  fun p e R s m args below meth c H locs cells slots mc ms ls S h1 h2 hl hr hs => lv_i2s S.1.1 S.1.2 hd rfl (k _ _ _ _ _ _ _ _ _ _ _ _ _ _ _ _ S h1 h2 hl hr hs)
theorem sx_i2c {x : Int32} (hd : decode (tb_b Y) pc = .ok (.i2c, 1)) (k : SX l base D cA h0 Y (pc + 1) loc (.int (x.toUInt32 % 65536).toInt32 :: stk) h bc bs Q) : SX l base D cA h0 Y pc loc (.int x :: stk) h bc bs Q :=
  fun p e R s m args below meth c H locs cells slots mc ms ls S h1 h2 hl hr hs => lv_i2c S.1.1 S.1.2 hd rfl (k _ _ _ _ _ _ _ _ _ _ _ _ _ _ _ _ S h1 h2 hl hr hs)
theorem sx_l2i {x : Int64} (hd : decode (tb_b Y) pc = .ok (.l2i, 1)) (k : SX l base D cA h0 Y (pc + 1) loc (.int x.toInt32 :: stk) h bc bs Q) : SX l base D cA h0 Y pc loc (.long x :: stk) h bc bs Q :=
  fun p e R s m args below meth c H locs cells slots mc ms ls S h1 h2 hl hr hs => lv_l2i S.1.1 S.1.2 hd rfl (k _ _ _ _ _ _ _ _ _ _ _ _ _ _ _ _ S h1 h2 hl hr hs)
theorem sx_lneg {x : Int64} (hd : decode (tb_b Y) pc = .ok (.lneg, 1)) (k : SX l base D cA h0 Y (pc + 1) loc (.long (-x) :: stk) h bc bs Q) : SX l base D cA h0 Y pc loc (.long x :: stk) h bc bs Q :=
  fun p e R s m args below meth c H locs cells slots mc ms ls S h1 h2 hl hr hs => lv_lneg S.1.1 S.1.2 hd (k _ _ _ _ _ _ _ _ _ _ _ _ _ _ _ _ S h1 h2 hl hr hs)
theorem sx_lcmp {x y : Int64} (hd : decode (tb_b Y) pc = .ok (.lcmp, 1)) (k : SX l base D cA h0 Y (pc + 1) loc (.int (lg_cmp x y) :: stk) h bc bs Q) : SX l base D cA h0 Y pc loc (.long y :: .long x :: stk) h bc bs Q :=
  fun p e R s m args below meth c H locs cells slots mc ms ls S h1 h2 hl hr hs => W.lcmp S.1.1 S.1.2 hd (k _ _ _ _ _ _ _ _ _ _ _ _ _ _ _ _ S h1 h2 hl hr hs)
theorem sx_dup {a : Value} (ha : a.category = 1) (hd : decode (tb_b Y) pc = .ok (.dup, 1)) (k : SX l base D cA h0 Y (pc + 1) loc (a :: a :: stk) h bc bs Q) : SX l base D cA h0 Y pc loc (a :: stk) h bc bs Q :=
  fun p e R s m args below meth c H locs cells slots mc ms ls S h1 h2 hl hr hs => lv_dup S.1.1 S.1.2 hd ha (k _ _ _ _ _ _ _ _ _ _ _ _ _ _ _ _ S h1 h2 hl hr hs)
theorem sx_pop {a : Value} (ha : a.category = 1) (hd : decode (tb_b Y) pc = .ok (.pop, 1)) (k : SX l base D cA h0 Y (pc + 1) loc (stk) h bc bs Q) : SX l base D cA h0 Y pc loc (a :: stk) h bc bs Q :=
  fun p e R s m args below meth c H locs cells slots mc ms ls S h1 h2 hl hr hs => lv_pop S.1.1 S.1.2 hd ha (k _ _ _ _ _ _ _ _ _ _ _ _ _ _ _ _ S h1 h2 hl hr hs)
theorem sx_pop2 {x : Int64} (hd : decode (tb_b Y) pc = .ok (.pop2, 1)) (k : SX l base D cA h0 Y (pc + 1) loc (stk) h bc bs Q) : SX l base D cA h0 Y pc loc (.long x :: stk) h bc bs Q :=
  fun p e R s m args below meth c H locs cells slots mc ms ls S h1 h2 hl hr hs => lv_pop2_2 S.1.1 S.1.2 hd rfl (k _ _ _ _ _ _ _ _ _ _ _ _ _ _ _ _ S h1 h2 hl hr hs)
theorem sx_dup_x1 {a b : Value} (ha : a.category = 1) (hb : b.category = 1) (hd : decode (tb_b Y) pc = .ok (.dup_x1, 1)) (k : SX l base D cA h0 Y (pc + 1) loc (a :: b :: a :: stk) h bc bs Q) : SX l base D cA h0 Y pc loc (a :: b :: stk) h bc bs Q :=
  fun p e R s m args below meth c H locs cells slots mc ms ls S h1 h2 hl hr hs => lv_dup_x1 S.1.1 S.1.2 hd ha hb (k _ _ _ _ _ _ _ _ _ _ _ _ _ _ _ _ S h1 h2 hl hr hs)
theorem sx_dup_x2 {a b d : Value} (ha : a.category = 1) (hb : b.category = 1) (hc : d.category = 1) (hd : decode (tb_b Y) pc = .ok (.dup_x2, 1)) (k : SX l base D cA h0 Y (pc + 1) loc (a :: b :: d :: a :: stk) h bc bs Q) : SX l base D cA h0 Y pc loc (a :: b :: d :: stk) h bc bs Q :=
  fun p e R s m args below meth c H locs cells slots mc ms ls S h1 h2 hl hr hs => lv_dup_x2 S.1.1 S.1.2 hd ha hb hc (k _ _ _ _ _ _ _ _ _ _ _ _ _ _ _ _ S h1 h2 hl hr hs)
theorem sx_dup2 {a b : Value} (ha : a.category = 1) (hb : b.category = 1) (hd : decode (tb_b Y) pc = .ok (.dup2, 1)) (k : SX l base D cA h0 Y (pc + 1) loc (a :: b :: a :: b :: stk) h bc bs Q) : SX l base D cA h0 Y pc loc (a :: b :: stk) h bc bs Q :=
  fun p e R s m args below meth c H locs cells slots mc ms ls S h1 h2 hl hr hs => lv_dup2_11 S.1.1 S.1.2 hd ha hb (k _ _ _ _ _ _ _ _ _ _ _ _ _ _ _ _ S h1 h2 hl hr hs)
theorem sx_iload_n {j : Fin 4} {x : Int32} (hj : loc[(j : Nat)]? = some (.int x)) (hd : decode (tb_b Y) pc = .ok (.iload_n j, 1)) (k : SX l base D cA h0 Y (pc + 1) loc (.int x :: stk) h bc bs Q) : SX l base D cA h0 Y pc loc (stk) h bc bs Q :=
  fun p e R s m args below meth c H locs cells slots mc ms ls S h1 h2 hl hr hs => lv_iload_n S.1.1 S.1.2 hd rfl (hl.at hj (fun z => by cases z)) (k _ _ _ _ _ _ _ _ _ _ _ _ _ _ _ _ S h1 h2 hl hr hs)
theorem sx_iload {j : Nat} {x : Int32} (hj : loc[j]? = some (.int x)) (hd : decode (tb_b Y) pc = .ok (.iload j, 2)) (k : SX l base D cA h0 Y (pc + 2) loc (.int x :: stk) h bc bs Q) : SX l base D cA h0 Y pc loc (stk) h bc bs Q :=
  fun p e R s m args below meth c H locs cells slots mc ms ls S h1 h2 hl hr hs => lv_iload S.1.1 S.1.2 hd (hl.at hj (fun z => by cases z)) (k _ _ _ _ _ _ _ _ _ _ _ _ _ _ _ _ S h1 h2 hl hr hs)
theorem sx_lload_n {j : Fin 4} {x : Int64} (hj : loc[(j : Nat)]? = some (.long x)) (hd : decode (tb_b Y) pc = .ok (.lload_n j, 1)) (k : SX l base D cA h0 Y (pc + 1) loc (.long x :: stk) h bc bs Q) : SX l base D cA h0 Y pc loc (stk) h bc bs Q :=
  fun p e R s m args below meth c H locs cells slots mc ms ls S h1 h2 hl hr hs => lv_lload_n S.1.1 S.1.2 hd rfl (hl.at hj (fun z => by cases z)) (k _ _ _ _ _ _ _ _ _ _ _ _ _ _ _ _ S h1 h2 hl hr hs)
theorem sx_lload {j : Nat} {x : Int64} (hj : loc[j]? = some (.long x)) (hd : decode (tb_b Y) pc = .ok (.lload j, 2)) (k : SX l base D cA h0 Y (pc + 2) loc (.long x :: stk) h bc bs Q) : SX l base D cA h0 Y pc loc (stk) h bc bs Q :=
  fun p e R s m args below meth c H locs cells slots mc ms ls S h1 h2 hl hr hs => lv_lload S.1.1 S.1.2 hd (hl.at hj (fun z => by cases z)) (k _ _ _ _ _ _ _ _ _ _ _ _ _ _ _ _ S h1 h2 hl hr hs)
theorem sx_aload_n {j : Fin 4} {x : Nat} (hj : loc[(j : Nat)]? = some (.ref x)) (hd : decode (tb_b Y) pc = .ok (.aload_n j, 1)) (k : SX l base D cA h0 Y (pc + 1) loc (.ref x :: stk) h bc bs Q) : SX l base D cA h0 Y pc loc (stk) h bc bs Q :=
  fun p e R s m args below meth c H locs cells slots mc ms ls S h1 h2 hl hr hs => lv_aload_n S.1.1 S.1.2 hd rfl (hl.at hj (fun z => by cases z)) (k _ _ _ _ _ _ _ _ _ _ _ _ _ _ _ _ S h1 h2 hl hr hs)
theorem sx_aload_nN {j : Fin 4} (hj : loc[(j : Nat)]? = some .null) (hd : decode (tb_b Y) pc = .ok (.aload_n j, 1)) (k : SX l base D cA h0 Y (pc + 1) loc (.null :: stk) h bc bs Q) : SX l base D cA h0 Y pc loc (stk) h bc bs Q :=
  fun p e R s m args below meth c H locs cells slots mc ms ls S h1 h2 hl hr hs => lv_aload_nN S.1.1 S.1.2 hd rfl (hl.at hj (fun z => by cases z)) (k _ _ _ _ _ _ _ _ _ _ _ _ _ _ _ _ S h1 h2 hl hr hs)
theorem sx_aload {j : Nat} {x : Nat} (hj : loc[j]? = some (.ref x)) (hd : decode (tb_b Y) pc = .ok (.aload j, 2)) (k : SX l base D cA h0 Y (pc + 2) loc (.ref x :: stk) h bc bs Q) : SX l base D cA h0 Y pc loc (stk) h bc bs Q :=
  fun p e R s m args below meth c H locs cells slots mc ms ls S h1 h2 hl hr hs => lv_aload S.1.1 S.1.2 hd (hl.at hj (fun z => by cases z)) (k _ _ _ _ _ _ _ _ _ _ _ _ _ _ _ _ S h1 h2 hl hr hs)
theorem sx_aloadN {j : Nat} (hj : loc[j]? = some .null) (hd : decode (tb_b Y) pc = .ok (.aload j, 2)) (k : SX l base D cA h0 Y (pc + 2) loc (.null :: stk) h bc bs Q) : SX l base D cA h0 Y pc loc (stk) h bc bs Q :=
  fun p e R s m args below meth c H locs cells slots mc ms ls S h1 h2 hl hr hs => lv_aloadN S.1.1 S.1.2 hd (hl.at hj (fun z => by cases z)) (k _ _ _ _ _ _ _ _ _ _ _ _ _ _ _ _ S h1 h2 hl hr hs)
theorem sx_istore_n {j : Fin 4} {x : Int32} (hi : (j : Nat) < loc.length) (hd : decode (tb_b Y) pc = .ok (.istore_n j, 1)) (k : SX l base D cA h0 Y (pc + 1) (st1 loc (j : Nat) (.int x)) stk h bc bs Q) : SX l base D cA h0 Y pc loc (.int x :: stk) h bc bs Q :=
  fun p e R s m args below meth c H locs cells slots mc ms ls S h1 h2 hl hr hs => lv_istore_n S.1.1 S.1.2 hd rfl hl.2 (by rw [← hl.1]; exact hi) rfl (fun ls2 hl2 => k _ _ _ _ _ _ _ _ _ _ _ _ _ _ _ ls2 S h1 h2 (RL_st1 hl.1 (by rw [← hl.1]; exact hi) hl2) hr hs)
theorem sx_istore {j : Nat} {x : Int32} (hi : j < loc.length) (hd : decode (tb_b Y) pc = .ok (.istore j, 2)) (k : SX l base D cA h0 Y (pc + 2) (st1 loc j (.int x)) stk h bc bs Q) : SX l base D cA h0 Y pc loc (.int x :: stk) h bc bs Q :=
  fun p e R s m args below meth c H locs cells slots mc ms ls S h1 h2 hl hr hs => lv_istore S.1.1 S.1.2 hd hl.2 (by rw [← hl.1]; exact hi) rfl (fun ls2 hl2 => k _ _ _ _ _ _ _ _ _ _ _ _ _ _ _ ls2 S h1 h2 (RL_st1 hl.1 (by rw [← hl.1]; exact hi) hl2) hr hs)
theorem sx_lstore_n {j : Fin 4} {x : Int64} (hi : (j : Nat) + 1 < loc.length) (hd : decode (tb_b Y) pc = .ok (.lstore_n j, 1)) (k : SX l base D cA h0 Y (pc + 1) (st2 loc (j : Nat) (.long x)) stk h bc bs Q) : SX l base D cA h0 Y pc loc (.long x :: stk) h bc bs Q :=
  fun p e R s m args below meth c H locs cells slots mc ms ls S h1 h2 hl hr hs => lv_lstore_n S.1.1 S.1.2 hd rfl hl.2 (by rw [← hl.1]; exact hi) rfl (fun ls2 hl2 => k _ _ _ _ _ _ _ _ _ _ _ _ _ _ _ ls2 S h1 h2 (RL_st2 hl.1 (by rw [← hl.1]; exact hi) hl2) hr hs)
theorem sx_lstore {j : Nat} {x : Int64} (hi : j + 1 < loc.length) (hd : decode (tb_b Y) pc = .ok (.lstore j, 2)) (k : SX l base D cA h0 Y (pc + 2) (st2 loc j (.long x)) stk h bc bs Q) : SX l base D cA h0 Y pc loc (.long x :: stk) h bc bs Q :=
  fun p e R s m args below meth c H locs cells slots mc ms ls S h1 h2 hl hr hs => lv_lstore S.1.1 S.1.2 hd hl.2 (by rw [← hl.1]; exact hi) rfl (fun ls2 hl2 => k _ _ _ _ _ _ _ _ _ _ _ _ _ _ _ ls2 S h1 h2 (RL_st2 hl.1 (by rw [← hl.1]; exact hi) hl2) hr hs)
theorem sx_astore_n {j : Fin 4} {x : Nat} (hi : (j : Nat) < loc.length) (hd : decode (tb_b Y) pc = .ok (.astore_n j, 1)) (k : SX l base D cA h0 Y (pc + 1) (st1 loc (j : Nat) (.ref x)) stk h bc bs Q) : SX l base D cA h0 Y pc loc (.ref x :: stk) h bc bs Q :=
  fun p e R s m args below meth c H locs cells slots mc ms ls S h1 h2 hl hr hs => lv_astore_n S.1.1 S.1.2 hd rfl hl.2 (by rw [← hl.1]; exact hi) rfl (fun ls2 hl2 => k _ _ _ _ _ _ _ _ _ _ _ _ _ _ _ ls2 S h1 h2 (RL_st1 hl.1 (by rw [← hl.1]; exact hi) hl2) hr hs)
theorem sx_astore_nN {j : Fin 4}  (hi : (j : Nat) < loc.length) (hd : decode (tb_b Y) pc = .ok (.astore_n j, 1)) (k : SX l base D cA h0 Y (pc + 1) (st1 loc (j : Nat) (.null)) stk h bc bs Q) : SX l base D cA h0 Y pc loc (.null :: stk) h bc bs Q :=
  fun p e R s m args below meth c H locs cells slots mc ms ls S h1 h2 hl hr hs => lv_astore_nN S.1.1 S.1.2 hd rfl hl.2 (by rw [← hl.1]; exact hi) rfl (fun ls2 hl2 => k _ _ _ _ _ _ _ _ _ _ _ _ _ _ _ ls2 S h1 h2 (RL_st1 hl.1 (by rw [← hl.1]; exact hi) hl2) hr hs)
theorem sx_astore {j : Nat} {x : Nat} (hi : j < loc.length) (hd : decode (tb_b Y) pc = .ok (.astore j, 2)) (k : SX l base D cA h0 Y (pc + 2) (st1 loc j (.ref x)) stk h bc bs Q) : SX l base D cA h0 Y pc loc (.ref x :: stk) h bc bs Q :=
  fun p e R s m args below meth c H locs cells slots mc ms ls S h1 h2 hl hr hs => lv_astore S.1.1 S.1.2 hd hl.2 (by rw [← hl.1]; exact hi) rfl (fun ls2 hl2 => k _ _ _ _ _ _ _ _ _ _ _ _ _ _ _ ls2 S h1 h2 (RL_st1 hl.1 (by rw [← hl.1]; exact hi) hl2) hr hs)
theorem sx_astoreN {j : Nat}  (hi : j < loc.length) (hd : decode (tb_b Y) pc = .ok (.astore j, 2)) (k : SX l base D cA h0 Y (pc + 2) (st1 loc j (.null)) stk h bc bs Q) : SX l base D cA h0 Y pc loc (.null :: stk) h bc bs Q :=
  fun p e R s m args below meth c H locs cells slots mc ms ls S h1 h2 hl hr hs => lv_astoreN S.1.1 S.1.2 hd hl.2 (by rw [← hl.1]; exact hi) rfl (fun ls2 hl2 => k _ _ _ _ _ _ _ _ _ _ _ _ _ _ _ ls2 S h1 h2 (RL_st1 hl.1 (by rw [← hl.1]; exact hi) hl2) hr hs)
theorem sx_iinc {i : Nat} {n : Int} {x : Int32} (hi : i < loc.length) (hj : loc[i]? = some (.int x)) (hd : decode (tb_b Y) pc = .ok (.iinc i n, 3)) (k : SX l base D cA h0 Y (pc + 3) (st1 loc i (.int (x + Int32.ofInt n))) stk h bc bs Q) : SX l base D cA h0 Y pc loc stk h bc bs Q := by
  intro p e R s m args below meth c H locs cells slots mc ms ls S h1 h2 hl hr hs
  obtain ⟨q, hq⟩ := List.getElem?_of_mem (prs_mem.mpr ⟨hj, fun z => by cases z⟩)
  exact lv_iinc S.1.1 S.1.2 hd hl.2 hq rfl (by rw [← hl.1]; exact hi) rfl (fun ls2 hl2 => k _ _ _ _ _ _ _ _ _ _ _ _ _ _ _ ls2 S h1 h2 (RL_st1 hl.1 (by rw [← hl.1]; exact hi) hl2) hr hs)
theorem sx_goto {o : Int} (ho : 0 ≤ (pc : Int) + o) (hd : decode (tb_b Y) pc = .ok (.goto o, 3)) (k : SX l base D cA h0 Y (jmp pc o) loc stk h bc bs Q) : SX l base D cA h0 Y pc loc stk h bc bs Q :=
  fun p e R s m args below meth c H locs cells slots mc ms ls S h1 h2 hl hr hs => lv_goto S.1.1 S.1.2 hd (jmp_eq ho) (k _ _ _ _ _ _ _ _ _ _ _ _ _ _ _ _ S h1 h2 hl hr hs)
theorem sx_if_eq {o : Int} {x : Int32} (ho : 0 ≤ (pc : Int) + o) (hd : decode (tb_b Y) pc = .ok (.ifCond .eq o, 3)) (k1 : cnd .eq x 0 → SX l base D cA h0 Y (jmp pc o) loc stk h bc bs Q) (k2 : ¬ cnd .eq x 0 → SX l base D cA h0 Y (pc + 3) loc stk h bc bs Q) : SX l base D cA h0 Y pc loc (.int x :: stk) h bc bs Q :=
  fun p e R s m args below meth c H locs cells slots mc ms ls S h1 h2 hl hr hs => lv_if_eq S.1.1 S.1.2 hd (jmp_eq ho) (fun z => (k1 z) _ _ _ _ _ _ _ _ _ _ _ _ _ _ _ _ S h1 h2 hl hr hs) (fun z => (k2 z) _ _ _ _ _ _ _ _ _ _ _ _ _ _ _ _ S h1 h2 hl hr hs)
theorem sx_ic_eq {o : Int} {x y : Int32} (ho : 0 ≤ (pc : Int) + o) (hd : decode (tb_b Y) pc = .ok (.if_icmp .eq o, 3)) (k1 : cnd .eq x y → SX l base D cA h0 Y (jmp pc o) loc stk h bc bs Q) (k2 : ¬ cnd .eq x y → SX l base D cA h0 Y (pc + 3) loc stk h bc bs Q) : SX l base D cA h0 Y pc loc (.int y :: .int x :: stk) h bc bs Q :=
  fun p e R s m args below meth c H locs cells slots mc ms ls S h1 h2 hl hr hs => lv_icmp_eq S.1.1 S.1.2 hd (jmp_eq ho) (fun z => (k1 z) _ _ _ _ _ _ _ _ _ _ _ _ _ _ _ _ S h1 h2 hl hr hs) (fun z => (k2 z) _ _ _ _ _ _ _ _ _ _ _ _ _ _ _ _ S h1 h2 hl hr hs)
theorem sx_if_ne {o : Int} {x : Int32} (ho : 0 ≤ (pc : Int) + o) (hd : decode (tb_b Y) pc = .ok (.ifCond .ne o, 3)) (k1 : cnd .ne x 0 → SX l base D cA h0 Y (jmp pc o) loc stk h bc bs Q) (k2 : ¬ cnd .ne x 0 → SX l base D cA h0 Y (pc + 3) loc stk h bc bs Q) : SX l base D cA h0 Y pc loc (.int x :: stk) h bc bs Q :=
  fun p e R s m args below meth c H locs cells slots mc ms ls S h1 h2 hl hr hs => lv_if_ne S.1.1 S.1.2 hd (jmp_eq ho) (fun z => (k1 z) _ _ _ _ _ _ _ _ _ _ _ _ _ _ _ _ S h1 h2 hl hr hs) (fun z => (k2 (fun n => n z)) _ _ _ _ _ _ _ _ _ _ _ _ _ _ _ _ S h1 h2 hl hr hs)
theorem sx_ic_ne {o : Int} {x y : Int32} (ho : 0 ≤ (pc : Int) + o) (hd : decode (tb_b Y) pc = .ok (.if_icmp .ne o, 3)) (k1 : cnd .ne x y → SX l base D cA h0 Y (jmp pc o) loc stk h bc bs Q) (k2 : ¬ cnd .ne x y → SX l base D cA h0 Y (pc + 3) loc stk h bc bs Q) : SX l base D cA h0 Y pc loc (.int y :: .int x :: stk) h bc bs Q :=
  fun p e R s m args below meth c H locs cells slots mc ms ls S h1 h2 hl hr hs => lv_icmp_ne S.1.1 S.1.2 hd (jmp_eq ho) (fun z => (k1 z) _ _ _ _ _ _ _ _ _ _ _ _ _ _ _ _ S h1 h2 hl hr hs) (fun z => (k2 (fun n => n z)) _ _ _ _ _ _ _ _ _ _ _ _ _ _ _ _ S h1 h2 hl hr hs)
theorem sx_if_lt {o : Int} {x : Int32} (ho : 0 ≤ (pc : Int) + o) (hd : decode (tb_b Y) pc = .ok (.ifCond .lt o, 3)) (k1 : cnd .lt x 0 → SX l base D cA h0 Y (jmp pc o) loc stk h bc bs Q) (k2 : ¬ cnd .lt x 0 → SX l base D cA h0 Y (pc + 3) loc stk h bc bs Q) : SX l base D cA h0 Y pc loc (.int x :: stk) h bc bs Q :=
  fun p e R s m args below meth c H locs cells slots mc ms ls S h1 h2 hl hr hs => lv_if_lt S.1.1 S.1.2 hd (jmp_eq ho) (fun z => (k1 z) _ _ _ _ _ _ _ _ _ _ _ _ _ _ _ _ S h1 h2 hl hr hs) (fun z => (k2 z) _ _ _ _ _ _ _ _ _ _ _ _ _ _ _ _ S h1 h2 hl hr hs)
theorem sx_ic_lt {o : Int} {x y : Int32} (ho : 0 ≤ (pc : Int) + o) (hd : decode (tb_b Y) pc = .ok (.if_icmp .lt o, 3)) (k1 : cnd .lt x y → SX l base D cA h0 Y (jmp pc o) loc stk h bc bs Q) (k2 : ¬ cnd .lt x y → SX l base D cA h0 Y (pc + 3) loc stk h bc bs Q) : SX l base D cA h0 Y pc loc (.int y :: .int x :: stk) h bc bs Q :=
  fun p e R s m args below meth c H locs cells slots mc ms ls S h1 h2 hl hr hs => lv_icmp_lt S.1.1 S.1.2 hd (jmp_eq ho) (fun z => (k1 z) _ _ _ _ _ _ _ _ _ _ _ _ _ _ _ _ S h1 h2 hl hr hs) (fun z => (k2 z) _ _ _ _ _ _ _ _ _ _ _ _ _ _ _ _ S h1 h2 hl hr hs)
theorem sx_if_ge {o : Int} {x : Int32} (ho : 0 ≤ (pc : Int) + o) (hd : decode (tb_b Y) pc = .ok (.ifCond .ge o, 3)) (k1 : cnd .ge x 0 → SX l base D cA h0 Y (jmp pc o) loc stk h bc bs Q) (k2 : ¬ cnd .ge x 0 → SX l base D cA h0 Y (pc + 3) loc stk h bc bs Q) : SX l base D cA h0 Y pc loc (.int x :: stk) h bc bs Q :=
  fun p e R s m args below meth c H locs cells slots mc ms ls S h1 h2 hl hr hs => lv_if_ge S.1.1 S.1.2 hd (jmp_eq ho) (fun z => (k1 z) _ _ _ _ _ _ _ _ _ _ _ _ _ _ _ _ S h1 h2 hl hr hs) (fun z => (k2 z) _ _ _ _ _ _ _ _ _ _ _ _ _ _ _ _ S h1 h2 hl hr hs)
theorem sx_ic_ge {o : Int} {x y : Int32} (ho : 0 ≤ (pc : Int) + o) (hd : decode (tb_b Y) pc = .ok (.if_icmp .ge o, 3)) (k1 : cnd .ge x y → SX l base D cA h0 Y (jmp pc o) loc stk h bc bs Q) (k2 : ¬ cnd .ge x y → SX l base D cA h0 Y (pc + 3) loc stk h bc bs Q) : SX l base D cA h0 Y pc loc (.int y :: .int x :: stk) h bc bs Q :=
  fun p e R s m args below meth c H locs cells slots mc ms ls S h1 h2 hl hr hs => lv_icmp_ge S.1.1 S.1.2 hd (jmp_eq ho) (fun z => (k1 z) _ _ _ _ _ _ _ _ _ _ _ _ _ _ _ _ S h1 h2 hl hr hs) (fun z => (k2 z) _ _ _ _ _ _ _ _ _ _ _ _ _ _ _ _ S h1 h2 hl hr hs)
theorem sx_if_gt {o : Int} {x : Int32} (ho : 0 ≤ (pc : Int) + o) (hd : decode (tb_b Y) pc = .ok (.ifCond .gt o, 3)) (k1 : cnd .gt x 0 → SX l base D cA h0 Y (jmp pc o) loc stk h bc bs Q) (k2 : ¬ cnd .gt x 0 → SX l base D cA h0 Y (pc + 3) loc stk h bc bs Q) : SX l base D cA h0 Y pc loc (.int x :: stk) h bc bs Q :=
  fun p e R s m args below meth c H locs cells slots mc ms ls S h1 h2 hl hr hs => lv_if_gt S.1.1 S.1.2 hd (jmp_eq ho) (fun z => (k1 z) _ _ _ _ _ _ _ _ _ _ _ _ _ _ _ _ S h1 h2 hl hr hs) (fun z => (k2 z) _ _ _ _ _ _ _ _ _ _ _ _ _ _ _ _ S h1 h2 hl hr hs)
theorem sx_ic_gt {o : Int} {x y : Int32} (ho : 0 ≤ (pc : Int) + o) (hd : decode (tb_b Y) pc = .ok (.if_icmp .gt o, 3)) (k1 : cnd .gt x y → SX l base D cA h0 Y (jmp pc o) loc stk h bc bs Q) (k2 : ¬ cnd .gt x y → SX l base D cA h0 Y (pc + 3) loc stk h bc bs Q) : SX l base D cA h0 Y pc loc (.int y :: .int x :: stk) h bc bs Q :=
  fun p e R s m args below meth c H locs cells slots mc ms ls S h1 h2 hl hr hs => lv_icmp_gt S.1.1 S.1.2 hd (jmp_eq ho) (fun z => (k1 z) _ _ _ _ _ _ _ _ _ _ _ _ _ _ _ _ S h1 h2 hl hr hs) (fun z => (k2 z) _ _ _ _ _ _ _ _ _ _ _ _ _ _ _ _ S h1 h2 hl hr hs)
theorem sx_if_le {o : Int} {x : Int32} (ho : 0 ≤ (pc : Int) + o) (hd : decode (tb_b Y) pc = .ok (.ifCond .le o, 3)) (k1 : cnd .le x 0 → SX l base D cA h0 Y (jmp pc o) loc stk h bc bs Q) (k2 : ¬ cnd .le x 0 → SX l base D cA h0 Y (pc + 3) loc stk h bc bs Q) : SX l base D cA h0 Y pc loc (.int x :: stk) h bc bs Q :=
  fun p e R s m args below meth c H locs cells slots mc ms ls S h1 h2 hl hr hs => lv_if_le S.1.1 S.1.2 hd (jmp_eq ho) (fun z => (k1 z) _ _ _ _ _ _ _ _ _ _ _ _ _ _ _ _ S h1 h2 hl hr hs) (fun z => (k2 z) _ _ _ _ _ _ _ _ _ _ _ _ _ _ _ _ S h1 h2 hl hr hs)
theorem sx_ic_le {o : Int} {x y : Int32} (ho : 0 ≤ (pc : Int) + o) (hd : decode (tb_b Y) pc = .ok (.if_icmp .le o, 3)) (k1 : cnd .le x y → SX l base D cA h0 Y (jmp pc o) loc stk h bc bs Q) (k2 : ¬ cnd .le x y → SX l base D cA h0 Y (pc + 3) loc stk h bc bs Q) : SX l base D cA h0 Y pc loc (.int y :: .int x :: stk) h bc bs Q :=
  fun p e R s m args below meth c H locs cells slots mc ms ls S h1 h2 hl hr hs => lv_icmp_le S.1.1 S.1.2 hd (jmp_eq ho) (fun z => (k1 z) _ _ _ _ _ _ _ _ _ _ _ _ _ _ _ _ S h1 h2 hl hr hs) (fun z => (k2 z) _ _ _ _ _ _ _ _ _ _ _ _ _ _ _ _ S h1 h2 hl hr hs)
theorem sx_ifnull {o : Int} {x : Nat} (hd : decode (tb_b Y) pc = .ok (.ifnull o, 3)) (k : SX l base D cA h0 Y (pc + 3) loc stk h bc bs Q) : SX l base D cA h0 Y pc loc (.ref x :: stk) h bc bs Q :=
  fun p e R s m args below meth c H locs cells slots mc ms ls S h1 h2 hl hr hs => lv_ifnull S.1.1 S.1.2 hd (k _ _ _ _ _ _ _ _ _ _ _ _ _ _ _ _ S h1 h2 hl hr hs)
theorem sx_ifnullN {o : Int} (ho : 0 ≤ (pc : Int) + o) (hd : decode (tb_b Y) pc = .ok (.ifnull o, 3)) (k : SX l base D cA h0 Y (jmp pc o) loc stk h bc bs Q) : SX l base D cA h0 Y pc loc (.null :: stk) h bc bs Q :=
  fun p e R s m args below meth c H locs cells slots mc ms ls S h1 h2 hl hr hs => lv_ifnullN S.1.1 S.1.2 hd (jmp_eq ho) (k _ _ _ _ _ _ _ _ _ _ _ _ _ _ _ _ S h1 h2 hl hr hs)
theorem sx_ifnonnull {o : Int} {x : Nat} (ho : 0 ≤ (pc : Int) + o) (hd : decode (tb_b Y) pc = .ok (.ifnonnull o, 3)) (k : SX l base D cA h0 Y (jmp pc o) loc stk h bc bs Q) : SX l base D cA h0 Y pc loc (.ref x :: stk) h bc bs Q :=
  fun p e R s m args below meth c H locs cells slots mc ms ls S h1 h2 hl hr hs => lv_ifnonnull S.1.1 S.1.2 hd (jmp_eq ho) (k _ _ _ _ _ _ _ _ _ _ _ _ _ _ _ _ S h1 h2 hl hr hs)
theorem sx_ifnonnullN {o : Int} (hd : decode (tb_b Y) pc = .ok (.ifnonnull o, 3)) (k : SX l base D cA h0 Y (pc + 3) loc stk h bc bs Q) : SX l base D cA h0 Y pc loc (.null :: stk) h bc bs Q :=
  fun p e R s m args below meth c H locs cells slots mc ms ls S h1 h2 hl hr hs => lv_ifnonnullN S.1.1 S.1.2 hd (k _ _ _ _ _ _ _ _ _ _ _ _ _ _ _ _ S h1 h2 hl hr hs)
end SXA
end

section
/-! fields -/
/-- a word of the tables, sought among those of its kind -/
def tk_a : List Cond := lw_tbl.filter (fun u => Nat.beq u.ctorIdx (Cond.lays "" "" "" "").ctorIdx)
def tk_b : List Cond := lw_tbl.filter (fun u => Nat.beq u.ctorIdx (Cond.laysFinal "" "" "" "").ctorIdx)
def tk_c : List Cond := lw_tbl.filter (fun u => Nat.beq u.ctorIdx (Cond.classLink "" 0 "").ctorIdx)
def tk_d : List Cond := lw_tbl.filter (fun u => Nat.beq u.ctorIdx (Cond.methodLink "" 0 ⟨"", "", ""⟩).ctorIdx)
def tk_e : List Cond := lw_tbl.filter (fun u => Nat.beq u.ctorIdx (Cond.initialized "").ctorIdx)
def tkOf : Cond → List Cond
  | .lays _ _ _ _ => tk_a
  | .laysFinal _ _ _ _ => tk_b
  | .classLink _ _ _ => tk_c
  | .methodLink _ _ _ => tk_d
  | .initialized _ => tk_e
  | _ => lw_tbl
def memB (w : Cond) : Bool := decide (w ∈ tkOf w)
theorem memB_in {w : Cond} (h : memB w = true) : w ∈ lw_tbl := by
  have h1 := of_decide_eq_true h
  unfold tkOf at h1
  split at h1
  · exact (List.mem_filter.mp h1).1
  · exact (List.mem_filter.mp h1).1
  · exact (List.mem_filter.mp h1).1
  · exact (List.mem_filter.mp h1).1
  · exact (List.mem_filter.mp h1).1
  · exact h1
def okR (r : vw_C) : Bool := (u_ws r.1 r.2.1 r.2.2).all (fun w => memB w && goodWord w) && ((List.range r.2.2).all (fun k => (parseFieldDescriptor (r.2.1 k).2.2.1).isSome) && (List.range r.2.2).all (fun a => (List.range r.2.2).all (fun b => decide (a = b) || decide ((r.2.1 a).2.1 ≠ (r.2.1 b).2.1))))
theorem okR_all : cls.all okR = true := by decide +kernel
def tyk (kd : Nat) (t : Option FieldType) : Bool := match kd with
  | 0 => decide (t = some .int)
  | 1 => decide (t = some .long)
  | 3 => decide (t = some .boolean)
  | 4 => decide (t = some .byte)
  | 2 => match t with | some (.object _) => true | some (.array _) => true | _ => false
  | _ => false
def okF (e : Nat × (Nat × Nat × Nat × Nat) × (Nat × Nat)) : Bool := match cls[e.2.1.1 - 1]? with
  | none => false
  | some r => decide (1 ≤ e.2.1.1 ∧ e.2.1.1 ≤ 100 ∧ e.2.1.2.1 < r.2.2 ∧ fkd e.2.1.1 e.2.1.2.1 = e.2.1.2.2.1 ∧ ((r.2.1 e.2.1.2.1).2.2.2 = true ↔ e.2.1.2.2.2 = 1)) && (tyk e.2.1.2.2.1 (parseFieldDescriptor (r.2.1 e.2.1.2.1).2.2.1) &&
      (((decide (e.2.2.1 = 0)) && (decide (lw_at e.2.2.2 = some (.fieldLink (cn (e.1 / 65536)) (e.1 % 65536) (r.2.1 e.2.1.2.1).1 (r.2.1 e.2.1.2.1).2.1 (r.2.1 e.2.1.2.1).2.2.1)) && goodWord (.fieldLink (cn (e.1 / 65536)) (e.1 % 65536) (r.2.1 e.2.1.2.1).1 (r.2.1 e.2.1.2.1).2.1 (r.2.1 e.2.1.2.1).2.2.1))) ||
       ((decide (e.2.2.1 = 1 ∧ (r.2.1 e.2.1.2.1).2.2.2 = false)) && decide (lw_at e.2.2.2 = some (.fieldLinkNest (cn (e.1 / 65536)) (e.1 % 65536) (r.2.1 e.2.1.2.1).1 (r.2.1 e.2.1.2.1).2.1 (r.2.1 e.2.1.2.1).2.2.1 "SluiceshelfLaw"))) ||
       ((decide (e.2.2.1 = 0 ∧ (r.2.1 e.2.1.2.1).2.2.2 = true ∧ (r.2.1 e.2.1.2.1).1 ≠ cn (e.1 / 65536))) && false)))
theorem okF_all : tF_l.all okF = true := by decide +kernel
theorem tF_mem {q : Nat} {v : Nat × Nat × Nat × Nat} (h : tF q = some v) : ∃ x, (q, v, x) ∈ tF_l := by
  unfold tF at h
  rw [Option.map_eq_some_iff] at h
  obtain ⟨e, h1, h2⟩ := h
  have h3 := List.find?_some h1
  obtain ⟨a, b, x⟩ := e
  simp only [beq_iff_eq] at h3 h2
  subst h3; subst h2
  exact ⟨x, List.mem_of_find?_eq_some h1⟩
theorem okR_of {i : Nat} {r : vw_C} (h : cls[i]? = some r) : (∀ w ∈ u_ws r.1 r.2.1 r.2.2, w ∈ Wd) ∧ (∀ k, k < r.2.2 → parseFieldDescriptor (r.2.1 k).2.2.1 = some ((parseFieldDescriptor (r.2.1 k).2.2.1).getD .int)) ∧ ∀ a, a < r.2.2 → ∀ b, b < r.2.2 → a ≠ b → (r.2.1 a).2.1 ≠ (r.2.1 b).2.1 := by
  have h1 := List.all_eq_true.mp okR_all r (List.mem_of_getElem? h)
  simp only [okR, Bool.and_eq_true, List.all_eq_true, decide_eq_true_eq, List.mem_range, Bool.or_eq_true] at h1
  obtain ⟨h2, h3, h4⟩ := h1
  refine ⟨fun w hw => List.mem_filter.mpr ⟨List.mem_append.mpr (Or.inr (memB_in (h2 w hw).1)), (h2 w hw).2⟩, fun k hk => ?_, fun a ha b hb n => ?_⟩
  · have := h3 k hk
    cases hp : parseFieldDescriptor (r.2.1 k).2.2.1 with
    | none => rw [hp] at this; cases this
    | some t => rfl
  · rcases h4 a ha b hb with z | z
    · exact absurd z n
    · exact z
section SXB
variable {l : Launch} {base : Nat} {D : va_G} {cA : Nat → ClassId} {h0 : MH}
variable {Y pc idx : Nat} {loc stk : List Value} {h h' : MH} {bc bs : Nat} {Q : MR → MH → Prop}
def sameB (a : Nat) (h h' : MH) : Prop := g_t h' = g_t h ∧ g_z h' = g_z h ∧ (∀ j, g_a h' j = g_a h j) ∧ (∀ b, g_c h' b = g_c h b ∧ g_n h' b = g_n h b) ∧ ∀ b, b ≠ a → (∀ k, g_i h' b k = g_i h b k) ∧ (∀ k, g_l h' b k = g_l h b k) ∧ ∀ k, g_r h' b k = g_r h b k
theorem sameB_i {a k : Nat} {v : Int32} : sameB a h (p_i h a k v) := ⟨rfl, rfl, fun _ => rfl, fun _ => ⟨rfl, rfl⟩, fun b hb => ⟨fun j => by rw [i_pi, if_neg (fun z => hb z.1)], fun _ => rfl, fun _ => rfl⟩⟩
theorem sameB_l {a k : Nat} {v : Int64} : sameB a h (p_l h a k v) := ⟨rfl, rfl, fun _ => rfl, fun _ => ⟨rfl, rfl⟩, fun b hb => ⟨fun _ => rfl, fun j => by rw [l_pl, if_neg (fun z => hb z.1)], fun _ => rfl⟩⟩
theorem sameB_r {a k : Nat} {v : Option Nat} : sameB a h (p_r h a k v) := ⟨rfl, rfl, fun _ => rfl, fun _ => ⟨rfl, rfl⟩, fun b hb => ⟨fun _ => rfl, fun _ => rfl, fun j => by rw [r_pr, if_neg (fun z => hb z.1)]⟩⟩
theorem sameB_C {a : Nat} {f : Nat → Int32} : sameB a h (p_C h a f) := ⟨rfl, rfl, fun _ => rfl, fun _ => ⟨rfl, rfl⟩, fun b hb => ⟨fun j => by rw [i_pC, if_neg hb], fun _ => rfl, fun _ => rfl⟩⟩
theorem cellR.kept {a : Nat} {H H' : Heap} (hc : g_c h' a = g_c h a) (hn : g_n h' a = g_n h a) (hi : ∀ k, g_i h' a k = g_i h a k) (hl : ∀ k, g_l h' a k = g_l h a k) (hr : ∀ k, g_r h' a k = g_r h a k) (oq : H'[a]? = H[a]?) (k : cellR D cA h a H) : cellR D cA h' a H' := by
  have ei : g_i h' a = g_i h a := funext hi
  have el : g_l h' a = g_l h a := funext hl
  have er : g_r h' a = g_r h a := funext hr
  have ef : fv h' a = fv h a := by funext t k; simp only [fv, ei, el, er]
  have ea : arO h' a = arO h a := by funext t; simp only [arO, hn, ei, el, er]
  obtain ⟨k1, k2, k3⟩ := k
  refine ⟨fun z => ?_, fun z => ?_, fun z => ?_⟩
  · rw [hc] at z ⊢
    rw [ef]
    obtain ⟨r, a1, a2⟩ := k1 z
    exact ⟨r, a1, a2.kept oq⟩
  · rw [hc] at z ⊢
    rw [ea]
    exact ⟨(k2 z).1, oq.trans (k2 z).2⟩
  · rw [hc] at z
    rw [ei]
    exact k3 z
theorem Rel.lt {H : Heap} {a : Nat} (hr : Rel base D cA h0 h H) (ha : base ≤ a) (hc : g_c h a ≠ 0) : a < H.size := by
  obtain ⟨-, -, -, -, -, -, h7⟩ := hr
  obtain ⟨k1, k2, -⟩ := h7 a ha hc
  by_cases z : g_c h a ≤ 100
  · obtain ⟨r, -, cell, q1, -⟩ := k1 z
    exact (Array.getElem?_eq_some_iff.mp q1).1
  · exact (Array.getElem?_eq_some_iff.mp (k2 z).2).1
theorem Rel.put {a : Nat} {H H' : Heap} (hr : Rel base D cA h0 h H) (ha : base ≤ a) (hz : H'.size = H.size) (oq : ∀ q, q ≠ a → H'[q]? = H[q]?) (hh : sameB a h h') (hc : cellR D cA h' a H') : Rel base D cA h0 h' H' := by
  obtain ⟨r1, r2, r3, r4, r5, r6, r7⟩ := hr
  obtain ⟨s1, s2, s3, s4, s5⟩ := hh
  refine ⟨by rw [s1, hz]; exact r1, by rw [s2]; exact r2, by rw [hz]; exact r3, r4, fun j => by rw [s3]; exact r5 j, fun b hb => ?_, fun b hb hcb => ?_⟩
  · have hne : b ≠ a := by omega
    obtain ⟨t1, -, t3⟩ := s5 b hne
    obtain ⟨u1, u2, u3, u4⟩ := r6 b hb
    exact ⟨by rw [(s4 b).1]; exact u1, by rw [(s4 b).2]; exact u2, fun k => by rw [t1]; exact u3 k, fun k => by rw [t3]; exact u4 k⟩
  · by_cases hne : b = a
    · subst hne; exact hc
    · obtain ⟨t1, t2, t3⟩ := s5 b hne
      rw [(s4 b).1] at hcb
      exact cellR.kept (s4 b).1 (s4 b).2 t1 t2 t3 (oq b hne) (r7 b hb hcb)
theorem Rel.new {tag n : Nat} {H H' : Heap} (hr : Rel base D cA h0 h H) (hz : H'.size = H.size + 1) (oq : ∀ q, q < H.size → H'[q]? = H[q]?) (hc : cellR D cA (p_N h tag n) (g_t h) H') : Rel base D cA h0 (p_N h tag n) H' := by
  have hlt := fun a ha hc => Rel.lt (a := a) hr ha hc
  obtain ⟨r1, r2, r3, r4, r5, r6, r7⟩ := hr
  refine ⟨by rw [t_pN, hz, r1], r2, by omega, r4, r5, fun b hb => ?_, fun b hb hcb => ?_⟩
  · have hne : ¬ b = g_t h := by omega
    obtain ⟨u1, u2, u3, u4⟩ := r6 b hb
    exact ⟨by rw [c_pN, if_neg hne]; exact u1, by rw [n_pN, if_neg hne]; exact u2, fun k => by rw [i_pN, if_neg hne]; exact u3 k, fun k => by rw [r_pN, if_neg hne]; exact u4 k⟩
  · by_cases hne : b = g_t h
    · subst hne; exact hc
    · rw [c_pN, if_neg hne] at hcb
      exact cellR.kept (by rw [c_pN, if_neg hne]) (by rw [n_pN, if_neg hne]) (fun k => by rw [i_pN, if_neg hne]) (fun k => by rw [l_pN, if_neg hne]) (fun k => by rw [r_pN, if_neg hne]) (oq b (hlt b hb hcb)) (r7 b hb hcb)
theorem Rel.top {t : Nat} {H H' : Heap} (hr : Rel base D cA h0 h H) (hz : H.size ≤ H'.size) (ht : t = H'.size) (oq : ∀ q, q < H.size → H'[q]? = H[q]?) : Rel base D cA h0 (p_T h t) H' := by
  have hlt := fun a ha hc => Rel.lt (a := a) hr ha hc
  obtain ⟨r1, r2, r3, r4, r5, r6, r7⟩ := hr
  exact ⟨ht, r2, by omega, r4, r5, r6, fun b hb hcb => cellR.kept (h := h) rfl rfl (fun _ => rfl) (fun _ => rfl) (fun _ => rfl) (oq b (hlt b hb hcb)) (r7 b hb hcb)⟩
theorem S_put {H0 H H1 : Heap} {locs : List Loc} {a k : Nat} (h : va_S (Ab base) H0 H locs) (z : H1.size = H.size) (oq : ∀ q : Nat, q ≠ a → H1[q]? = H[q]?) (ha : base ≤ a) : va_S (Ab base) H0 H1 (locs ++ [⟨a, k⟩]) := h.put z oq ha
theorem S_new {H0 H H1 : Heap} {locs : List Loc} (h : va_S (Ab base) H0 H locs) (z : H1.size = H.size + 1) (oq : ∀ q : Nat, q < H.size → H1[q]? = H[q]?) : va_S (Ab base) H0 H1 locs := ⟨by have := h.1; omega, fun q h1 h2 => (oq q (Nat.lt_of_lt_of_le h1 h.1)).trans (h.2.1 q h1 h2), h.2.2⟩
theorem fv_i {a t k kd : Nat} (e : fkd t k = kd) (h1 : ¬ kd = 1) (h2 : ¬ kd = 2) : fv h a t k = .int (g_i h a k) := by unfold fv; rw [e, if_neg h1, if_neg h2]
theorem fv_l {a t k : Nat} (e : fkd t k = 1) : fv h a t k = .long (g_l h a k) := by unfold fv; rw [e, if_pos rfl]
theorem fv_r {a t k : Nat} (e : fkd t k = 2) : fv h a t k = va_rf (g_r h a k) := by unfold fv; rw [e, if_neg (by decide), if_pos rfl]
/-- getfield -/
theorem sx_gf {tag k kd fin a : Nat} {v : Value} (hd : decode (tb_b Y) pc = .ok (.getfield idx, 3)) (hf : tF (tb_o Y * 65536 + idx) = some (tag, k, kd, fin)) (hidx : idx < 65536) (hc : g_c h a = tag) (hv : (if kd = 1 then .long (g_l h a k) else if kd = 2 then va_rf (g_r h a k) else .int (g_i h a k)) = v) (kk : SX l base D cA h0 Y (pc + 3) loc (v :: stk) h bc bs Q) : SX l base D cA h0 Y pc loc (.ref a :: stk) h bc bs Q := by
  intro p e R s m args below meth c H locs cells slots mc ms ls S h1 h2 hl hr hs
  have KK := kk p e R s m args below meth c H locs cells slots mc ms ls S h1 h2 hl hr hs
  obtain ⟨⟨hx, hb⟩, ⟨hml, hrt, hown, hts⟩, ⟨hlk, hin, hsf, hbs, hst⟩, -, -⟩ := S
  obtain ⟨x, hx9⟩ := tF_mem hf
  have hok := List.all_eq_true.mp okF_all _ hx9
  have e1 : (tb_o Y * 65536 + idx) / 65536 = tb_o Y := by omega
  have e2 : (tb_o Y * 65536 + idx) % 65536 = idx := by omega
  simp only [okF, e1, e2] at hok
  cases hcl : cls[tag - 1]? with
  | none => rw [hcl] at hok; cases hok
  | some r =>
    rw [hcl] at hok
    simp only [Bool.and_eq_true, Bool.or_eq_true, decide_eq_true_eq, Bool.false_eq_true, and_false, or_false] at hok
    obtain ⟨⟨c1, c2, c3, c4, c5⟩, c6, c7⟩ := hok
    obtain ⟨o1, o2, o3⟩ := okR_of hcl
    have hfv : fv h a tag k = v := by unfold fv; rw [c4]; exact hv
    by_cases ha : base ≤ a
    · obtain ⟨k1, -, -⟩ := hr.2.2.2.2.2.2 a ha (by omega)
      obtain ⟨r', g1, g2⟩ := k1 (by omega)
      rw [hc] at g1 g2
      cases g1.symm.trans hcl
      have hP : va_P D cls [(a, .inr (tag - 1, (List.range r.2.2).map (fv h a tag)))] H := by
        intro i q hq
        have : i = 0 := by have := (List.getElem?_eq_some_iff.mp hq).1; simpa using this
        subst this
        cases hq
        exact ⟨r, hcl, g2.to (fun j hj => by simp [vp_V, List.getD, hj])⟩
      have hvv : ((List.range r.2.2).map (fv h a tag))[k]? = some v := by simp [c3, hfv]
      rcases c7 with ⟨-, w1, w2⟩ | ⟨-, w1⟩
      · exact va_get (D := D) (cl := cls) (tys := tysW cA) (ws := [(a, .inr (tag - 1, (List.range r.2.2).map (fv h a tag)))]) (Ts := Wd) hx hb hts o1 hown hsf.1 hP 0 rfl hcl k c3 (hts _ (Wd_at _ w1 w2)) (fun _ z => z) hvv hd KK
      · exact va_getN (D := D) (cl := cls) (tys := tysW cA) (ws := [(a, .inr (tag - 1, (List.range r.2.2).map (fv h a tag)))]) (Ts := Wd) hx hb hts o1 hown hsf.1 hP 0 rfl hcl k c3 ((hsf.2.2.2.2.2.2.1 _ (lw_at_in w1) rfl).use rfl) (fun _ z => z) hvv hd KK
    · obtain ⟨b1, b2, b3, b4⟩ := hr.2.2.2.2.2.1 a (by omega)
      have hst0 := hsf.2.1 a (by omega) (by rw [← b1]; omega)
      rcases hst0 with ⟨t1, t2, ⟨v0, t3, t4⟩, t5⟩ | ⟨t1, -, -⟩ | ⟨t1, -, -⟩
      · have ht : tag = 11 := by rw [← hc, b1, t1]
        subst ht
        have hcl2 : r = ("java/lang/String", uT11, 2) := (Option.some.inj hcl).symm
        subst hcl2
        rcases c7 with ⟨-, w1, w2⟩ | ⟨w0, w1⟩
        · match k, c3, c4, c5, c6, w1, w2, hfv with
          | 0, c3, c4, c5, c6, w1, w2, hfv =>
            have : v = .ref v0 := by rw [← hfv, fv_r (by decide), b4, t3]; rfl
            subst this
            exact vk_getf hx hb t4 hs hown (hts _ (Wd_at _ w1 w2)) (fun _ z => z) hd KK
          | 1, c3, c4, c5, c6, w1, w2, hfv =>
            have : v = .int (g_i h0 a 1) := by rw [← hfv, fv_i (kd := 4) (by decide) (by decide) (by decide), b3]
            subst this
            exact vk_getf hx hb t5 hs hown (hts _ (Wd_at _ w1 w2)) (fun _ z => z) hd KK
          | k + 2, c3, c4, c5, c6, w1, w2, hfv => exact absurd c3 (by show ¬ k + 2 < 2; omega)
        · exfalso
          match k, c3, w0 with
          | 0, c3, w0 => exact absurd w0.2 (by decide)
          | 1, c3, w0 => exact absurd w0.2 (by decide)
          | k + 2, c3, w0 => exact absurd c3 (by show ¬ k + 2 < 2; omega)
      · omega
      · omega
end SXB
end

section
section SXC
variable {l : Launch} {base : Nat} {D : va_G} {cA : Nat → ClassId} {h0 : MH}
variable {Y pc idx : Nat} {loc stk : List Value} {h h' : MH} {bc bs : Nat} {Q : MR → MH → Prop}
/-- putfield: a value that fits, the memory behind it told -/
theorem sx_pf {tag k kd fin a : Nat} {v : Value} (hd : decode (tb_b Y) pc = .ok (.putfield idx, 3)) (hf : tF (tb_o Y * 65536 + idx) = some (tag, k, kd, fin)) (hidx : idx < 65536) (hc : g_c h a = tag) (hz : g_z h ≤ a) (hi : fin = 1 → okI Y tag k)
    (hfin : ∀ t, tyk kd (some t) = true → narrow t v = v ∧ fits t v = true) (hs' : sameB a h h') (hv : fv h' a tag k = v) (ho : ∀ j, j ≠ k → fv h' a tag j = fv h a tag j)
    (kk : SX l base D cA h0 Y (pc + 3) loc stk h' bc bs Q) : SX l base D cA h0 Y pc loc (v :: .ref a :: stk) h bc bs Q := by
  intro p e R s m args below meth c H locs cells slots mc ms ls S h1 h2 hl hr hs
  have KK := kk p e R s m args below meth c
  have S0 := S
  obtain ⟨⟨hx, hb⟩, ⟨hml, hrt, hown, hts⟩, ⟨hlk, hin, hsf, hbs, hst⟩, -, -⟩ := S
  obtain ⟨x, hx9⟩ := tF_mem hf
  have hok := List.all_eq_true.mp okF_all _ hx9
  have e1 : (tb_o Y * 65536 + idx) / 65536 = tb_o Y := by omega
  have e2 : (tb_o Y * 65536 + idx) % 65536 = idx := by omega
  simp only [okF, e1, e2] at hok
  cases hcl : cls[tag - 1]? with
  | none => rw [hcl] at hok; cases hok
  | some r =>
    rw [hcl] at hok
    simp only [Bool.and_eq_true, Bool.or_eq_true, decide_eq_true_eq, Bool.false_eq_true, and_false, or_false] at hok
    obtain ⟨⟨c1, c2, c3, c4, c5⟩, c6, c7⟩ := hok
    obtain ⟨o1, o2, o3⟩ := okR_of hcl
    have ha : base ≤ a := by rw [← hr.2.1]; exact hz
    obtain ⟨k1, -, -⟩ := hr.2.2.2.2.2.2 a ha (by omega)
    obtain ⟨r', g1, cell, q1, q2, q3, q4⟩ := k1 (by omega)
    rw [hc] at g1 q2 q4
    cases g1.symm.trans hcl
    have hap := va_apart (own := cn (tb_o Y)) (tys := tysW cA) (D := D) hts o1 (fun k => (parseFieldDescriptor (r.2.1 k).2.2.1).getD .int) o2 o3 hsf.1 hcl
    obtain ⟨hS, hfc, kC, hkC, hkind⟩ := hsf.1.1 _ r hcl
    obtain ⟨cf, kf, fi, f, hfi, hsl⟩ := hS k c3
    have hlay := hts _ (o1 _ (u_in_lay c3))
    have hst9 := (u_facts hfc hkC (u_lays hts o1 c3) hfi).1
    have hd9 := o2 k c3
    have hnf := hfin ((parseFieldDescriptor (r.2.1 k).2.2.1).getD .int) (by rw [← hd9]; exact c6)
    unfold u_lay at hlay
    have fin9 : ∀ (H' : Heap), H'[a]? = some (cell.setSlot f.slot v) → H'.size = H.size → (∀ q, q ≠ a → H'[q]? = H[q]?) →
        W p l e R s m args below meth c H' (locs ++ [⟨a, f.slot⟩]) cells slots (vx_MQ below (QcO base D cA h0 Q) (XcO base D cA h0 Q) args s mc ms (Ab base)) (F0 m (pc + 3) ls stk) := by
      intro H' a1 a2 a3
      refine KK H' _ cells slots mc ms ls S0 h1 h2 hl (hr.put ha a2 a3 hs' ?_) (S_put hs a2 a3 ha)
      have hc' : g_c h' a = tag := by rw [(hs'.2.2.2.1 a).1]; exact hc
      refine ⟨fun _ => ?_, fun z => absurd (by omega) z, fun z => by omega⟩
      rw [hc']
      refine ⟨r, hcl, cell.setSlot f.slot v, a1, q2, q3, fun j hj => ?_⟩
      rw [hsl]
      have := t_set q4 hap c3 v j hj
      rw [this]
      by_cases hjk : j = k
      · subst hjk
        simp [updV, hv]
      · simp [updV, hjk, ho j hjk]
    by_cases hfb : (r.2.1 k).2.2.2 = true
    · rw [if_pos hfb] at hlay
      rcases c7 with ⟨-, w1, w2⟩ | ⟨w0, w1⟩
      · have hlink := hts _ (Wd_at _ w1 w2)
        have hcf : m.cls = cf := by
          obtain ⟨_, _, c', _, _, _, -, -, hf', -, -, -, hown2, -⟩ := Cond.laysFinal_spec hlay
          have e1 : c' = cf := by have := hfi.symm.trans hf'; simp at this; exact this.1.symm
          have hdecl : (r.2.1 k).1 = cn (tb_o Y) := by
            have z := (hi (c5.mp hfb)).2
            rw [hcl] at z
            exact Option.some.inj z
          rw [hdecl] at hown2
          rw [← e1]; exact Option.some.inj (hown.symm.trans hown2)
        have h6 := u_fits hfc hkC hkind (Or.inr hlay) hfi hd9 hnf.1 hnf.2
        exact W.putFinK hx hb hown hlink hfi hst9 hcf (hin (hi (c5.mp hfb)).1) (by rw [q2]; exact h6) q1 q3 (by rw [hsl]; exact k2_hasslot (q4 k c3)) rfl rfl hd fin9
      · exact absurd w0.2 (by rw [hfb]; decide)
    · rw [if_neg hfb] at hlay
      have h6 := u_store hfc hkC hkind hlay hfi hd9 hnf.1 hnf.2
      rcases c7 with ⟨-, w1, w2⟩ | ⟨w0, w1⟩
      · exact W.putK hx hb (f := f) ⟨hown, hts _ (Wd_at _ w1 w2), ⟨_, _, _, hfi⟩, hst9⟩ (by rw [q2]; exact h6) q1 q3 (by rw [hsl]; exact k2_hasslot (q4 k c3)) rfl rfl hd fin9
      · exact va_WputK hx hb (f := f) hown ((hsf.2.2.2.2.2.2.1 _ (lw_at_in w1) rfl).use rfl) hfi hst9 (by rw [q2]; exact h6) q1 q3 (by rw [hsl]; exact k2_hasslot (q4 k c3)) rfl rfl hd fin9
end SXC
end

section
theorem Wd_mem {w : Cond} (h : w ∈ lw_tbl) (hg : goodWord w = true) : w ∈ Wd := List.mem_filter.mpr ⟨List.mem_append.mpr (Or.inr h), hg⟩
section SXD
variable {l : Launch} {base : Nat} {D : va_G} {cA : Nat → ClassId} {h0 : MH}
variable {Y pc idx : Nat} {loc stk : List Value} {h h' : MH} {bc bs : Nat} {Q : MR → MH → Prop}
theorem Rel.high {H : Heap} {a : Nat} {s : State} {H0 : Heap} (hr : Rel base D cA h0 h H) (hsf : SF base D cA h0 s H0) (h1 : g_c h a ≠ 0) (h2 : g_c h a ≠ 11) (h3 : g_c h a ≠ 103) (h4 : g_c h a ≠ 107) : base ≤ a := by
  by_cases ha : base ≤ a
  · exact ha
  · exfalso
    have b1 := (hr.2.2.2.2.2.1 a (by omega)).1
    rcases hsf.2.1 a (by omega) (by rw [← b1]; exact h1) with z | z | z
    · exact h2 (b1.trans z.1)
    · exact h3 (b1.trans z.1)
    · exact h4 (b1.trans z.1)
theorem Rel.arr {H : Heap} {a t : Nat} (hr : Rel base D cA h0 h H) (ha : base ≤ a) (hc : g_c h a = t) (ht : 101 ≤ t) : H[a]? = some (vp_cell (cA t) (arO h a t)) := by
  have := ((hr.2.2.2.2.2.2 a ha (by omega)).2.1 (by omega)).2
  rw [hc] at this
  exact this
theorem P1 {H : Heap} {a : Nat} {e : va_E} (hx : va_at D cls (a, e) H) : va_P D cls [(a, e)] H := by
  intro i q hq
  have : i = 0 := by have := (List.getElem?_eq_some_iff.mp hq).1; simpa using this
  subst this
  cases hq
  exact hx
theorem cellR_arr {a t : Nat} {H : Heap} (hc : g_c h a = t) (h1 : 101 ≤ t) (h2 : t ≤ 106) (hH : H[a]? = some (vp_cell (cA t) (arO h a t))) (hb : t = 103 → ∀ j, fits .byte (.int (g_i h a j)) = true) : cellR D cA h a H := by
  refine ⟨fun z => by omega, fun _ => ?_, fun z => hb (by omega)⟩
  rw [hc]
  exact ⟨h2, hH⟩
theorem arr_in {a n : Nat} {i : Int32} {cc : ClassId} {f : Nat → Value} (h : vp_in i n) : ¬ (i < 0 ∨ (arrV cc n f).slots.size ≤ i.toNatClampNeg) := by rw [arrV_size]; exact h
theorem sx_iald {a : Nat} {i : Int32} (hd : decode (tb_b Y) pc = .ok (.iaload, 1)) (hc : g_c h a = 101) (hin : vp_in i (g_n h a)) (k : SX l base D cA h0 Y (pc + 1) loc (.int (g_i h a i.toNatClampNeg) :: stk) h bc bs Q) : SX l base D cA h0 Y pc loc (.int i :: .ref a :: stk) h bc bs Q := by
  intro p e R s m args below meth c H locs cells slots mc ms ls S h1 h2 hl hr hs
  have S0 := S
  obtain ⟨⟨hx, hb⟩, ⟨hml, hrt, hown, hts⟩, ⟨hlk, hin0, hsf, hbs, hst⟩, -, -⟩ := S
  have hP := P1 (D := D) (e := .inl (cA 101, arO h a 101)) (hr.arr (hr.high (a := a) hsf (by omega) (by omega) (by omega) (by omega)) hc (by decide))
  exact va_iald (tys := tysW cA) hx hb hsf.1 hP 0 0 rfl rfl hin hd (k _ _ _ _ _ _ _ _ _ _ _ _ _ _ _ _ S0 h1 h2 hl hr hs)
theorem sx_lald {a : Nat} {i : Int32} (hd : decode (tb_b Y) pc = .ok (.laload, 1)) (hc : g_c h a = 102) (hin : vp_in i (g_n h a)) (k : SX l base D cA h0 Y (pc + 1) loc (.long (g_l h a i.toNatClampNeg) :: stk) h bc bs Q) : SX l base D cA h0 Y pc loc (.int i :: .ref a :: stk) h bc bs Q := by
  intro p e R s m args below meth c H locs cells slots mc ms ls S h1 h2 hl hr hs
  have S0 := S
  obtain ⟨⟨hx, hb⟩, ⟨hml, hrt, hown, hts⟩, ⟨hlk, hin0, hsf, hbs, hst⟩, -, -⟩ := S
  have hP := P1 (D := D) (e := .inl (cA 102, arO h a 102)) (hr.arr (hr.high (a := a) hsf (by omega) (by omega) (by omega) (by omega)) hc (by decide))
  exact va_lald (tys := tysW cA) hx hb hsf.1 hP 0 1 rfl rfl hin hd (k _ _ _ _ _ _ _ _ _ _ _ _ _ _ _ _ S0 h1 h2 hl hr hs)
theorem sx_cald {a : Nat} {i : Int32} (hd : decode (tb_b Y) pc = .ok (.caload, 1)) (hc : g_c h a = 104) (hin : vp_in i (g_n h a)) (k : SX l base D cA h0 Y (pc + 1) loc (.int (g_i h a i.toNatClampNeg) :: stk) h bc bs Q) : SX l base D cA h0 Y pc loc (.int i :: .ref a :: stk) h bc bs Q := by
  intro p e R s m args below meth c H locs cells slots mc ms ls S h1 h2 hl hr hs
  have S0 := S
  obtain ⟨⟨hx, hb⟩, ⟨hml, hrt, hown, hts⟩, ⟨hlk, hin0, hsf, hbs, hst⟩, -, -⟩ := S
  have hP := P1 (D := D) (e := .inl (cA 104, arO h a 104)) (hr.arr (hr.high (a := a) hsf (by omega) (by omega) (by omega) (by omega)) hc (by decide))
  exact va_cald (tys := tysW cA) hx hb hsf.1 hP 0 3 rfl rfl hin hd (k _ _ _ _ _ _ _ _ _ _ _ _ _ _ _ _ S0 h1 h2 hl hr hs)
theorem sx_aald {a : Nat} {i : Int32} (hd : decode (tb_b Y) pc = .ok (.aaload, 1)) (hc : g_c h a = 106) (hin : vp_in i (g_n h a)) (k : SX l base D cA h0 Y (pc + 1) loc (va_rf (g_r h a i.toNatClampNeg) :: stk) h bc bs Q) : SX l base D cA h0 Y pc loc (.int i :: .ref a :: stk) h bc bs Q := by
  intro p e R s m args below meth c H locs cells slots mc ms ls S h1 h2 hl hr hs
  have S0 := S
  obtain ⟨⟨hx, hb⟩, ⟨hml, hrt, hown, hts⟩, ⟨hlk, hin0, hsf, hbs, hst⟩, -, -⟩ := S
  have hP := P1 (D := D) (e := .inl (cA 106, arO h a 106)) (hr.arr (hr.high (a := a) hsf (by omega) (by omega) (by omega) (by omega)) hc (by decide))
  exact va_aldq (tys := tysW cA) hx hb hsf.1 hP 0 5 rfl rfl hin hd (k _ _ _ _ _ _ _ _ _ _ _ _ _ _ _ _ S0 h1 h2 hl hr hs)
theorem sx_sald {a : Nat} {i : Int32} (hd : decode (tb_b Y) pc = .ok (.iaload, 1)) (hc : g_c h a = 107) (hin : vp_in i (g_n h a)) (k : SX l base D cA h0 Y (pc + 1) loc (.int (g_i h a i.toNatClampNeg) :: stk) h bc bs Q) : SX l base D cA h0 Y pc loc (.int i :: .ref a :: stk) h bc bs Q := by
  intro p e R s m args below meth c H locs cells slots mc ms ls S h1 h2 hl hr hs
  have S0 := S
  obtain ⟨⟨hx, hb⟩, ⟨hml, hrt, hown, hts⟩, ⟨hlk, hin0, hsf, hbs, hst⟩, -, -⟩ := S
  by_cases ha : base ≤ a
  · have := ((hr.2.2.2.2.2.2 a ha (by omega)).2.1 (by omega)).1
    omega
  · obtain ⟨b1, b2, b3, -⟩ := hr.2.2.2.2.2.1 a (by omega)
    rcases hsf.2.1 a (by omega) (by rw [← b1]; omega) with z | z | ⟨z1, z2, z3⟩
    · have := z.1
      omega
    · have := z.1
      omega
    · have hbl := (Array.getElem?_eq_some_iff.mp z2.choose_spec.1).1
      exact va_sld hx hb z2 hbl (fun z => by have : base ≤ a := z; omega) hs (by rw [← b2]; exact hin) hd (by rw [← b3]; exact k _ _ _ _ _ _ _ _ _ _ _ _ _ _ _ _ S0 h1 h2 hl hr hs)
theorem sx_bald {a : Nat} {i : Int32} (hd : decode (tb_b Y) pc = .ok (.baload, 1)) (hc : g_c h a = 103 ∨ g_c h a = 105) (hin : vp_in i (g_n h a)) (k : SX l base D cA h0 Y (pc + 1) loc (.int (g_i h a i.toNatClampNeg) :: stk) h bc bs Q) : SX l base D cA h0 Y pc loc (.int i :: .ref a :: stk) h bc bs Q := by
  intro p e R s m args below meth c H locs cells slots mc ms ls S h1 h2 hl hr hs
  have S0 := S
  obtain ⟨⟨hx, hb⟩, ⟨hml, hrt, hown, hts⟩, ⟨hlk, hin0, hsf, hbs, hst⟩, -, -⟩ := S
  by_cases ha : base ≤ a
  · rcases hc with hc | hc
    · have hP := P1 (D := D) (e := .inl (cA 103, arO h a 103)) (hr.arr ha hc (by decide))
      exact va_bald (tys := tysW cA) hx hb hsf.1 hP 0 2 rfl rfl hin hd (k _ _ _ _ _ _ _ _ _ _ _ _ _ _ _ _ S0 h1 h2 hl hr hs)
    · have hP := P1 (D := D) (e := .inl (cA 105, arO h a 105)) (hr.arr ha hc (by decide))
      exact va_zald (tys := tysW cA) hx hb hsf.1 hP 0 4 rfl rfl hin hd (k _ _ _ _ _ _ _ _ _ _ _ _ _ _ _ _ S0 h1 h2 hl hr hs)
  · obtain ⟨b1, b2, b3, -⟩ := hr.2.2.2.2.2.1 a (by omega)
    rcases hsf.2.1 a (by omega) (by rw [← b1]; omega) with z | ⟨z1, z2, -⟩ | z
    · have := z.1
      omega
    · exact va_tb hx hb z2 hs (by rw [← b2]; exact hin) rfl hd (by rw [← b3]; exact k _ _ _ _ _ _ _ _ _ _ _ _ _ _ _ _ S0 h1 h2 hl hr hs)
    · have := z.1
      omega
theorem sx_alen {a : Nat} (hd : decode (tb_b Y) pc = .ok (.arraylength, 1)) (hc : 101 ≤ g_c h a ∧ g_c h a ≤ 107) (k : SX l base D cA h0 Y (pc + 1) loc (.int (Int32.ofNat (g_n h a)) :: stk) h bc bs Q) : SX l base D cA h0 Y pc loc (.ref a :: stk) h bc bs Q := by
  intro p e R s m args below meth c H locs cells slots mc ms ls S h1 h2 hl hr hs
  have S0 := S
  obtain ⟨⟨hx, hb⟩, ⟨hml, hrt, hown, hts⟩, ⟨hlk, hin0, hsf, hbs, hst⟩, -, -⟩ := S
  by_cases ha : base ≤ a
  · obtain ⟨t, ht⟩ : ∃ t, g_c h a = t := ⟨_, rfl⟩
    have hP := P1 (D := D) (e := .inl (cA t, arO h a t)) (hr.arr ha ht (by omega))
    have h106 := ((hr.2.2.2.2.2.2 a ha (by omega)).2.1 (by omega)).1
    have KK := k p e R s m args below meth c H locs cells slots mc ms ls S0 h1 h2 hl hr hs
    rcases (show t = 101 ∨ t = 102 ∨ t = 103 ∨ t = 104 ∨ t = 105 ∨ t = 106 by omega) with rfl | rfl | rfl | rfl | rfl | rfl
    · exact va_alen (tys := tysW cA) hx hb hsf.1 hP 0 0 rfl rfl rfl hd KK
    · exact va_alen (tys := tysW cA) hx hb hsf.1 hP 0 1 rfl rfl rfl hd KK
    · exact va_alen (tys := tysW cA) hx hb hsf.1 hP 0 2 rfl rfl rfl hd KK
    · exact va_alen (tys := tysW cA) hx hb hsf.1 hP 0 3 rfl rfl rfl hd KK
    · exact va_alen (tys := tysW cA) hx hb hsf.1 hP 0 4 rfl rfl rfl hd KK
    · exact va_alen (tys := tysW cA) hx hb hsf.1 hP 0 5 rfl rfl rfl hd KK
  · obtain ⟨b1, b2, b3, -⟩ := hr.2.2.2.2.2.1 a (by omega)
    rcases hsf.2.1 a (by omega) (by rw [← b1]; omega) with z | ⟨z1, z2, -⟩ | ⟨z1, z2, z3⟩
    · have := z.1
      omega
    · exact va_tlen hx hb z2 hs rfl hd (by rw [← b2]; exact k _ _ _ _ _ _ _ _ _ _ _ _ _ _ _ _ S0 h1 h2 hl hr hs)
    · have hbl := (Array.getElem?_eq_some_iff.mp z2.choose_spec.1).1
      exact va_slen hx hb z2 hbl (fun z => by have : base ≤ a := z; omega) hs hd (by rw [← b2]; exact k _ _ _ _ _ _ _ _ _ _ _ _ _ _ _ _ S0 h1 h2 hl hr hs)
theorem sx_iast {a : Nat} {i : Int32} {x : Int32} (hd : decode (tb_b Y) pc = .ok (.iastore, 1)) (hc : g_c h a = 101) (hz : g_z h ≤ a) (hin : vp_in i (g_n h a)) (k : SX l base D cA h0 Y (pc + 1) loc stk (p_i h a i.toNatClampNeg x) bc bs Q) : SX l base D cA h0 Y pc loc (.int x :: .int i :: .ref a :: stk) h bc bs Q := by
  intro p e R s m args below meth c H locs cells slots mc ms ls S h1 h2 hl hr hs
  have S0 := S
  obtain ⟨⟨hx, hb⟩, ⟨hml, hrt, hown, hts⟩, ⟨hlk, hin0, hsf, hbs, hst⟩, -, -⟩ := S
  have ha : base ≤ a := by rw [← hr.2.1]; exact hz
  have hcell := hr.arr ha hc (by decide)
  refine W.iast hx hb hcell ((hsf.1.2 0 _ rfl).1 (g_n h a) (fun j => .int (g_i h a j))) (fun q => by cases q) (arr_in (a := a) hin) rfl rfl hd fun H1 e z oq => ?_
  refine k _ _ _ _ _ _ _ _ _ H1 _ _ _ _ _ _ S0 h1 h2 hl (hr.put ha z oq sameB_i (cellR_arr (t := 101) hc (by decide) (by decide) ?_ ?_)) (S_put hs z oq ha)
  · rw [e]
    show some ((vp_cell _ _).setSlot _ _) = some (vp_cell _ _)
    unfold arO
    simp only [show ¬ (101 : Nat) = 102 by decide, show ¬ (101 : Nat) = 106 by decide, if_false]
    rw [vp_cell_i, vp_cell_i, arrV_store]
    congr 2
    funext q
    by_cases hq : q = i.toNatClampNeg
    · subst hq
      simp [updV, i_pi, vp_nar]
      try rfl
    · simp [updV, i_pi, hq]
  · intro z; cases z
theorem sx_last {a : Nat} {i : Int32} {x : Int64} (hd : decode (tb_b Y) pc = .ok (.lastore, 1)) (hc : g_c h a = 102) (hz : g_z h ≤ a) (hin : vp_in i (g_n h a)) (k : SX l base D cA h0 Y (pc + 1) loc stk (p_l h a i.toNatClampNeg x) bc bs Q) : SX l base D cA h0 Y pc loc (.long x :: .int i :: .ref a :: stk) h bc bs Q := by
  intro p e R s m args below meth c H locs cells slots mc ms ls S h1 h2 hl hr hs
  have S0 := S
  obtain ⟨⟨hx, hb⟩, ⟨hml, hrt, hown, hts⟩, ⟨hlk, hin0, hsf, hbs, hst⟩, -, -⟩ := S
  have ha : base ≤ a := by rw [← hr.2.1]; exact hz
  have hcell := hr.arr ha hc (by decide)
  refine W.last hx hb hcell ((hsf.1.2 1 _ rfl).1 (g_n h a) (fun j => .long (g_l h a j))) (fun q => by cases q) (arr_in (a := a) hin) rfl rfl hd fun H1 e z oq => ?_
  refine k _ _ _ _ _ _ _ _ _ H1 _ _ _ _ _ _ S0 h1 h2 hl (hr.put ha z oq sameB_l (cellR_arr (t := 102) hc (by decide) (by decide) ?_ ?_)) (S_put hs z oq ha)
  · rw [e]
    show some ((vp_cell _ _).setSlot _ _) = some (vp_cell _ _)
    unfold arO
    simp only [if_true]
    rw [vp_cell_l, vp_cell_l, arrV_store]
    congr 2
    funext q
    by_cases hq : q = i.toNatClampNeg
    · subst hq
      simp [updV, l_pl, vp_nar]
      try rfl
    · simp [updV, l_pl, hq]
  · intro z; cases z
theorem sx_cast {a : Nat} {i : Int32} {x : Int32} (hd : decode (tb_b Y) pc = .ok (.castore, 1)) (hc : g_c h a = 104) (hz : g_z h ≤ a) (hin : vp_in i (g_n h a)) (k : SX l base D cA h0 Y (pc + 1) loc stk (p_i h a i.toNatClampNeg (vp_nar .char x)) bc bs Q) : SX l base D cA h0 Y pc loc (.int x :: .int i :: .ref a :: stk) h bc bs Q := by
  intro p e R s m args below meth c H locs cells slots mc ms ls S h1 h2 hl hr hs
  have S0 := S
  obtain ⟨⟨hx, hb⟩, ⟨hml, hrt, hown, hts⟩, ⟨hlk, hin0, hsf, hbs, hst⟩, -, -⟩ := S
  have ha : base ≤ a := by rw [← hr.2.1]; exact hz
  have hcell := hr.arr ha hc (by decide)
  refine W.cast hx hb hcell ((hsf.1.2 3 _ rfl).1 (g_n h a) (fun j => .int (g_i h a j))) (fun q => by cases q) (arr_in (a := a) hin) rfl rfl hd fun H1 e z oq => ?_
  refine k _ _ _ _ _ _ _ _ _ H1 _ _ _ _ _ _ S0 h1 h2 hl (hr.put ha z oq sameB_i (cellR_arr (t := 104) hc (by decide) (by decide) ?_ ?_)) (S_put hs z oq ha)
  · rw [e]
    show some ((vp_cell _ _).setSlot _ _) = some (vp_cell _ _)
    unfold arO
    simp only [show ¬ (104 : Nat) = 102 by decide, show ¬ (104 : Nat) = 106 by decide, if_false]
    rw [vp_cell_i, vp_cell_i, arrV_store]
    congr 2
    funext q
    by_cases hq : q = i.toNatClampNeg
    · subst hq
      simp [updV, i_pi, vp_nar]
      try rfl
    · simp [updV, i_pi, hq]
  · intro z; cases z
theorem sx_zast {a : Nat} {i : Int32} {x : Int32} (hd : decode (tb_b Y) pc = .ok (.bastore, 1)) (hc : g_c h a = 105) (hz : g_z h ≤ a) (hin : vp_in i (g_n h a)) (k : SX l base D cA h0 Y (pc + 1) loc stk (p_i h a i.toNatClampNeg (vp_nar .boolean x)) bc bs Q) : SX l base D cA h0 Y pc loc (.int x :: .int i :: .ref a :: stk) h bc bs Q := by
  intro p e R s m args below meth c H locs cells slots mc ms ls S h1 h2 hl hr hs
  have S0 := S
  obtain ⟨⟨hx, hb⟩, ⟨hml, hrt, hown, hts⟩, ⟨hlk, hin0, hsf, hbs, hst⟩, -, -⟩ := S
  have ha : base ≤ a := by rw [← hr.2.1]; exact hz
  have hcell := hr.arr ha hc (by decide)
  refine W.zast hx hb hcell ((hsf.1.2 4 _ rfl).1 (g_n h a) (fun j => .int (g_i h a j))) (fun q => by cases q) (arr_in (a := a) hin) rfl rfl hd fun H1 e z oq => ?_
  refine k _ _ _ _ _ _ _ _ _ H1 _ _ _ _ _ _ S0 h1 h2 hl (hr.put ha z oq sameB_i (cellR_arr (t := 105) hc (by decide) (by decide) ?_ ?_)) (S_put hs z oq ha)
  · rw [e]
    show some ((vp_cell _ _).setSlot _ _) = some (vp_cell _ _)
    unfold arO
    simp only [show ¬ (105 : Nat) = 102 by decide, show ¬ (105 : Nat) = 106 by decide, if_false]
    rw [vp_cell_i, vp_cell_i, arrV_store]
    congr 2
    funext q
    by_cases hq : q = i.toNatClampNeg
    · subst hq
      simp [updV, i_pi, vp_nar]
      try rfl
    · simp [updV, i_pi, hq]
  · intro z; cases z
theorem sx_bast {a : Nat} {i : Int32} {x : Int32} (hd : decode (tb_b Y) pc = .ok (.bastore, 1)) (hc : g_c h a = 103) (hz : g_z h ≤ a) (hin : vp_in i (g_n h a)) (k : SX l base D cA h0 Y (pc + 1) loc stk (p_i h a i.toNatClampNeg (vp_nar .byte x)) bc bs Q) : SX l base D cA h0 Y pc loc (.int x :: .int i :: .ref a :: stk) h bc bs Q := by
  intro p e R s m args below meth c H locs cells slots mc ms ls S h1 h2 hl hr hs
  have S0 := S
  obtain ⟨⟨hx, hb⟩, ⟨hml, hrt, hown, hts⟩, ⟨hlk, hin0, hsf, hbs, hst⟩, -, -⟩ := S
  have ha : base ≤ a := by rw [← hr.2.1]; exact hz
  have hcell := hr.arr ha hc (by decide)
  refine W.bast hx hb hcell ((hsf.1.2 2 _ rfl).1 (g_n h a) (fun j => .int (g_i h a j))) (fun q => by cases q) (arr_in (a := a) hin) rfl rfl hd fun H1 e z oq => ?_
  refine k _ _ _ _ _ _ _ _ _ H1 _ _ _ _ _ _ S0 h1 h2 hl (hr.put ha z oq sameB_i (cellR_arr (t := 103) hc (by decide) (by decide) ?_ ?_)) (S_put hs z oq ha)
  · rw [e]
    show some ((vp_cell _ _).setSlot _ _) = some (vp_cell _ _)
    unfold arO
    simp only [show ¬ (103 : Nat) = 102 by decide, show ¬ (103 : Nat) = 106 by decide, if_false]
    rw [vp_cell_i, vp_cell_i, arrV_store]
    congr 2
    funext q
    by_cases hq : q = i.toNatClampNeg
    · subst hq
      simp [updV, i_pi, vp_nar]
      try rfl
    · simp [updV, i_pi, hq]
  · intro _ j
    rw [i_pi]
    split
    · exact pk_fb x
    · exact (hr.2.2.2.2.2.2 a ha (by omega)).2.2 hc j
theorem sx_aast {a v : Nat} {i : Int32} (hd : decode (tb_b Y) pc = .ok (.aastore, 1)) (hc : g_c h a = 106) (hz : g_z h ≤ a) (hv : g_c h v = tb_p) (hin : vp_in i (g_n h a)) (k : SX l base D cA h0 Y (pc + 1) loc stk (p_r h a i.toNatClampNeg (some v)) bc bs Q) : SX l base D cA h0 Y pc loc (.ref v :: .int i :: .ref a :: stk) h bc bs Q := by
  intro p e R s m args below meth c H locs cells slots mc ms ls S h1 h2 hl hr hs
  have S0 := S
  obtain ⟨⟨hx, hb⟩, ⟨hml, hrt, hown, hts⟩, ⟨hlk, hin0, hsf, hbs, hst⟩, -, -⟩ := S
  have ha : base ≤ a := by rw [← hr.2.1]; exact hz
  have hcell := hr.arr ha hc (by decide)
  have hv8 : g_c h v = 8 := hv
  have hvb : base ≤ v := hr.high hsf (by omega) (by omega) (by omega) (by omega)
  obtain ⟨r, hr8, cellV, g1, g2, g3, -⟩ := (hr.2.2.2.2.2.2 v hvb (by omega)).1 (by omega)
  rw [hv8] at hr8 g2
  have hcls := (hsf.1.1 7 r hr8).2
  obtain ⟨kA, comp, k1, k2, k3, -⟩ := (hsf.1.2 5 _ rfl).2
  have hr9 : r.1 = "SluiceshelfModel$Pane" := by
    have : r = ("SluiceshelfModel$Pane", uT8, 6) := (Option.some.inj hr8).symm
    rw [this]
  rw [hr9] at hcls
  have hcomp : comp = D.1 7 := Option.some.inj (k3.symm.trans hcls.1)
  subst hcomp
  obtain ⟨kC, hkC, -⟩ := hcls.2
  have hlt : i.toNatClampNeg < g_n h a := Nat.not_le.mp fun q => hin (Or.inr q)
  have h09 : ¬ i < 0 := fun q => hin (Or.inl q)
  refine W.aast hx hb hcell (fun q h => by cases h) (fun h => by cases h) k1 k2 rfl hkC ⟨h09, by show _ < (arrV _ _ _).slots.size; rw [arrV_size]; exact hlt⟩ g1 (fun q h => by rw [g3] at h; cases h) (by rw [g2]; exact hkC) (by rw [g2]; exact va_assign hcls) rfl rfl hd fun H1 e z oq => ?_
  refine k _ _ _ _ _ _ _ _ _ H1 _ _ _ _ _ _ S0 h1 h2 hl (hr.put ha z oq sameB_r (cellR_arr (t := 106) hc (by decide) (by decide) ?_ ?_)) (S_put hs z oq ha)
  · rw [e]
    show some ((vp_cell _ _).setSlot _ _) = some (vp_cell _ _)
    unfold arO
    simp only [show ¬ (106 : Nat) = 102 by decide, if_false, if_true]
    rw [vp_cell_q, vp_cell_q, arrV_store]
    congr 2
    funext q
    by_cases hq : q = i.toNatClampNeg
    · subst hq
      simp [updV, r_pr, va_rf]
    · simp [updV, r_pr, hq]
  · intro z; cases z
theorem def_fv {t9 : FieldType} {t k kd : Nat} (hk : tyk kd (some t9) = true) (e : fkd t k = kd) : defaultValue t9 = fv (p_N h t 0) (g_t h) t k := by
  unfold fv
  rw [e]
  match kd, hk with
  | 0, hk => simp [tyk] at hk; subst hk; simp [i_pN]; rfl
  | 1, hk => simp [tyk] at hk; subst hk; simp [l_pN]; rfl
  | 2, hk =>
    simp [r_pN]
    cases t9 <;> first | rfl | (exact absurd hk (by decide)) | simp [tyk] at hk
  | 3, hk => simp [tyk] at hk; subst hk; simp [i_pN]; rfl
  | 4, hk => simp [tyk] at hk; subst hk; simp [i_pN]; rfl
  | n + 5, hk => simp [tyk] at hk
def okC (e : Nat × (Nat × Nat) × (Nat × Nat × Nat)) : Bool := match cls[e.2.1.1 - 1]? with
  | none => false
  | some r => decide (1 ≤ e.2.1.1 ∧ e.2.1.1 ≤ 100) && ((List.range r.2.2).all (fun k => tyk (fkd e.2.1.1 k) (parseFieldDescriptor (r.2.1 k).2.2.1)) &&
     (decide (lw_at e.2.2.1 = some (.classLink (cn (e.1 / 65536)) (e.1 % 65536) r.1)) && (decide (lw_at e.2.2.2.1 = some (.instantiable r.1 e.2.1.2)) && (decide (lw_at e.2.2.2.2 = some (.initialized r.1)) &&
     (goodWord (.classLink (cn (e.1 / 65536)) (e.1 % 65536) r.1) && (goodWord (.instantiable r.1 e.2.1.2) && goodWord (.initialized r.1)))))))
theorem okC_all : tC_l.all okC = true := by decide +kernel
theorem tC_mem {q : Nat} {v : Nat × Nat} (h : tC q = some v) : ∃ x, (q, v, x) ∈ tC_l := by
  unfold tC at h
  rw [Option.map_eq_some_iff] at h
  obtain ⟨e, h1, h2⟩ := h
  have h3 := List.find?_some h1
  obtain ⟨a, b, x⟩ := e
  simp only [beq_iff_eq] at h3 h2
  subst h3; subst h2
  exact ⟨x, List.mem_of_find?_eq_some h1⟩
theorem sx_new {tag n : Nat} (hd : decode (tb_b Y) pc = .ok (.new idx, 3)) (hf : tC (tb_o Y * 65536 + idx) = some (tag, n)) (hidx : idx < 65536) (hbc : 1 ≤ bc) (hbn : n ≤ bs) (k : SX l base D cA h0 Y (pc + 3) loc (.ref (g_t h) :: stk) (p_N h tag 0) (bc - 1) (bs - n) Q) : SX l base D cA h0 Y pc loc stk h bc bs Q := by
  intro p e R s m args below meth c H locs cells slots mc ms ls S h1 h2 hl hr hs
  have S0 := S
  obtain ⟨⟨hx, hb⟩, ⟨hml, hrt, hown, hts⟩, ⟨hlk, hin0, hsf, hbs, hst⟩, ⟨hR1, hR2, hR3, hR4⟩, -⟩ := S
  obtain ⟨x, hx9⟩ := tC_mem hf
  have hok := List.all_eq_true.mp okC_all _ hx9
  have e1 : (tb_o Y * 65536 + idx) / 65536 = tb_o Y := by omega
  have e2 : (tb_o Y * 65536 + idx) % 65536 = idx := by omega
  simp only [okC, e1, e2] at hok
  cases hcl : cls[tag - 1]? with
  | none => rw [hcl] at hok; cases hok
  | some r =>
    rw [hcl] at hok
    simp only [Bool.and_eq_true, List.all_eq_true, List.mem_range, decide_eq_true_eq] at hok
    obtain ⟨⟨c1, c2⟩, c3, w1, w2, w3, v1, v2, v3⟩ := hok
    obtain ⟨o1, o2, o3⟩ := okR_of hcl
    have hKn := hsf.1.1 _ r hcl
    refine W.newcK hx hb hown (hts _ (Wd_at _ w1 v1)) (hts _ (Wd_at _ w2 v2)) (hts _ (Wd_at _ w3 v3)) rfl hd (by omega) (by omega) hKn.2.1 hr.1.symm fun H1 kC hkC e1 z1 oq1 => ?_
    have oq : ∀ q, q < H.size → H1[q]? = H[q]? := fun q hq => oq1 q (by rw [hr.1]; exact hq)
    have z : H1.size = H.size + 1 := by rw [z1, hr.1]
    refine k _ _ _ _ _ _ _ _ _ H1 _ _ _ _ _ _ S0 (by omega) (by omega) hl (hr.new z oq ⟨fun _ => ?_, fun q => ?_, fun q => ?_⟩) (S_new hs z oq)
    · rw [c_pN, if_pos rfl]
      exact ⟨r, hcl, (u_born (fun k => (parseFieldDescriptor (r.2.1 k).2.2.1).getD .int) hts o1 hKn hkC e1 o2).to (fun j hj => def_fv (kd := fkd tag j) (by rw [← o2 j hj]; exact c3 j hj) rfl)⟩
    · exact absurd (by rw [c_pN, if_pos rfl]; exact c2) q
    · rw [c_pN, if_pos rfl] at q
      omega
theorem nt_ok {ty : ArrayType} (ht : ¬ tb_t ty = 0) : (Cond.arrayClass (newarray.typeOf ty)) ∈ Wd ∧ componentBytes (newarray.typeOf ty) ≤ 8 ∧ 101 ≤ tb_t ty ∧ tb_t ty ≤ 105 := by
  cases ty <;> first | exact absurd rfl ht | exact ⟨by first | exact Wd_mem (by decide +kernel) rfl, by decide, by decide, by decide⟩
theorem sx_newa {ty : ArrayType} {n : Int32} (hd : decode (tb_b Y) pc = .ok (.newarray ty, 2)) (ht : ¬ tb_t ty = 0) (hn : ¬ n < 0) (hn2 : n.toNatClampNeg ≤ 67108864) (hbc : 1 ≤ bc) (hbn : n.toNatClampNeg ≤ bs) (k : SX l base D cA h0 Y (pc + 2) loc (.ref (g_t h) :: stk) (p_N h (tb_t ty) n.toNatClampNeg) (bc - 1) (bs - n.toNatClampNeg) Q) : SX l base D cA h0 Y pc loc (.int n :: stk) h bc bs Q := by
  intro p e R s m args below meth c H locs cells slots mc ms ls S h1 h2 hl hr hs
  have S0 := S
  obtain ⟨⟨hx, hb⟩, ⟨hml, hrt, hown, hts⟩, ⟨hlk, hin0, hsf, hbs, hst⟩, ⟨hR1, hR2, hR3, hR4⟩, -⟩ := S
  obtain ⟨t1, t2, t3, t4⟩ := nt_ok ht
  refine va_newaK hx hb (hts _ t1) rfl hd rfl hn rfl (Nat.le_trans (Nat.mul_le_mul hn2 t2) (by decide)) (by omega) (by omega) hr.1.symm fun H1 cA1 e1 z1 oq1 hAr hNm => ?_
  have oq : ∀ q, q < H.size → H1[q]? = H[q]? := fun q hq => oq1 q (by rw [hr.1]; exact hq)
  have z : H1.size = H.size + 1 := by rw [z1, hr.1]
  have hcA : cA1 = cA (tb_t ty) := by
    have K := hsf.1.2
    cases ty <;> first
      | exact absurd rfl ht
      | exact Option.some.inj (hNm.symm.trans (K 0 _ rfl).2)
      | exact Option.some.inj (hNm.symm.trans (K 1 _ rfl).2)
      | exact Option.some.inj (hNm.symm.trans (K 2 _ rfl).2)
      | exact Option.some.inj (hNm.symm.trans (K 3 _ rfl).2)
      | exact Option.some.inj (hNm.symm.trans (K 4 _ rfl).2)
  subst hcA
  refine k _ _ _ _ _ _ _ _ _ H1 _ _ _ _ _ _ S0 (by omega) (by omega) hl (hr.new z oq (cellR_arr (t := tb_t ty) (by rw [c_pN, if_pos rfl]) t3 (by omega) ?_ ?_)) (S_new hs z oq)
  · rw [e1]
    have en : g_n (p_N h (tb_t ty) n.toNatClampNeg) (g_t h) = n.toNatClampNeg := by rw [n_pN, if_pos rfl]
    have ei : g_i (p_N h (tb_t ty) n.toNatClampNeg) (g_t h) = fun _ => 0 := by funext j; rw [i_pN, if_pos rfl]
    have el : g_l (p_N h (tb_t ty) n.toNatClampNeg) (g_t h) = fun _ => 0 := by funext j; rw [l_pN, if_pos rfl]
    unfold arO
    rw [en, ei, el]
    cases ty <;> first | exact absurd rfl ht | rfl
  · intro _ j
    rw [i_pN, if_pos rfl]
    decide
def okA (e : Nat × Nat) : Bool := decide (lw_at e.2 = some (.classLink (cn (e.1 / 65536)) (e.1 % 65536) "SluiceshelfModel$Pane")) && goodWord (.classLink (cn (e.1 / 65536)) (e.1 % 65536) "SluiceshelfModel$Pane")
theorem okA_all : tA_l.all okA = true := by decide +kernel
theorem sx_anew {n : Int32} (hd : decode (tb_b Y) pc = .ok (.anewarray idx, 3)) (hf : tA (tb_o Y * 65536 + idx) = true) (hidx : idx < 65536) (hn : ¬ n < 0) (hn2 : n.toNatClampNeg ≤ 67108864) (hbc : 1 ≤ bc) (hbn : n.toNatClampNeg ≤ bs) (k : SX l base D cA h0 Y (pc + 3) loc (.ref (g_t h) :: stk) (p_N h 106 n.toNatClampNeg) (bc - 1) (bs - n.toNatClampNeg) Q) : SX l base D cA h0 Y pc loc (.int n :: stk) h bc bs Q := by
  intro p e R s m args below meth c H locs cells slots mc ms ls S h1 h2 hl hr hs
  have S0 := S
  obtain ⟨⟨hx, hb⟩, ⟨hml, hrt, hown, hts⟩, ⟨hlk, hin0, hsf, hbs, hst⟩, ⟨hR1, hR2, hR3, hR4⟩, -⟩ := S
  unfold tA at hf
  obtain ⟨e, he1, he2⟩ := List.any_eq_true.mp hf
  have hok := List.all_eq_true.mp okA_all _ he1
  obtain ⟨eq, ew⟩ := e
  simp only [beq_iff_eq] at he2
  subst he2
  have e1 : (tb_o Y * 65536 + idx) / 65536 = tb_o Y := by omega
  have e2 : (tb_o Y * 65536 + idx) % 65536 = idx := by omega
  simp only [okA, e1, e2, Bool.and_eq_true, decide_eq_true_eq] at hok
  refine W.anew hx hb hown (hts _ (Wd_at _ hok.1 hok.2)) (va_AO.use hsf.2.2.2.2.2.2.2.1) rfl hd rfl hn (by omega) (by omega) (by omega) fun cA1 kA comp f1 f2 f3 f4 => ?_
  generalize hH1 : H.push ({ cls := cA1, slots := Array.replicate n.toNatClampNeg .null, vm := .none } : Cell) = H1
  have z : H1.size = H.size + 1 := by rw [← hH1, Array.size_push]
  have e1 : H1[H.size]? = some (arrV cA1 n.toNatClampNeg (fun _ => .null)) := by rw [← hH1, Array.getElem?_push_size, ← arrV_new]
  have oq : ∀ q : Nat, q < H.size → H1[q]? = H[q]? := fun q hq => by rw [← hH1, Array.getElem?_push, if_neg (Nat.ne_of_lt hq)]
  have hcA : cA1 = cA 106 := by
    obtain ⟨kA, comp, k1, k2, k3, k4⟩ := (hsf.1.2 5 _ rfl).2
    exact Option.some.inj (f1.symm.trans k4)
  subst hcA
  rw [← hr.1]
  refine k _ _ _ _ _ _ _ _ _ H1 _ _ _ _ _ _ S0 (by omega) (by omega) hl (hr.new z oq (cellR_arr (t := 106) (by rw [c_pN, if_pos rfl]) (by decide) (by decide) ?_ (fun z => by cases z))) (S_new hs z oq)
  rw [hr.1, e1, ← hr.1]
  have en : g_n (p_N h 106 n.toNatClampNeg) (g_t h) = n.toNatClampNeg := by rw [n_pN, if_pos rfl]
  have er : g_r (p_N h 106 n.toNatClampNeg) (g_t h) = fun _ => none := by funext j; rw [r_pN, if_pos rfl]
  unfold arO
  rw [en, er]
  rfl
end SXD
end
