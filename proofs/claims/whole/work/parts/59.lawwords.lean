/-! the law's words -/
set_option maxRecDepth 20000 in
theorem lk_X9_letters : Cond.methodLink RL 15 (am_y 51) ∈ am_tb := am_tb_of (List.mem_of_getElem? (i := 391) rfl) rfl
set_option maxRecDepth 20000 in
theorem lk_X10_letters : Cond.methodLink RL 19 (am_y 83) ∈ am_tb := am_tb_of (List.mem_of_getElem? (i := 858) rfl) rfl
set_option maxRecDepth 20000 in
theorem lk_X9_blank : Cond.methodLink RL 20 (am_y 52) ∈ am_tb := am_tb_of (List.mem_of_getElem? (i := 402) rfl) rfl
set_option maxRecDepth 20000 in
theorem lk_X10_blank : Cond.methodLink RL 24 (am_y 84) ∈ am_tb := am_tb_of (List.mem_of_getElem? (i := 863) rfl) rfl
set_option maxRecDepth 20000 in
theorem lk_X9_fault : Cond.methodLink RL 25 (am_y 53) ∈ am_tb := am_tb_of (List.mem_of_getElem? (i := 406) rfl) rfl
set_option maxRecDepth 20000 in
theorem lk_X10_fault : Cond.methodLink RL 28 (am_y 88) ∈ am_tb := am_tb_of (List.mem_of_getElem? (i := 867) rfl) rfl
set_option maxRecDepth 20000 in
theorem lk_X9_law : Cond.methodLink RL 29 (am_y 54) ∈ am_tb := am_tb_of (List.mem_of_getElem? (i := 423) rfl) rfl
set_option maxRecDepth 20000 in
theorem lk_X10_law : Cond.methodLink RL 32 (am_y 89) ∈ am_tb := am_tb_of (List.mem_of_getElem? (i := 887) rfl) rfl
set_option maxRecDepth 20000 in
theorem lk_X9_lawTold : Cond.methodLink RL 33 (am_y 55) ∈ am_tb := am_tb_of (List.mem_of_getElem? (i := 463) rfl) rfl
set_option maxRecDepth 20000 in
theorem lk_X10_lawTold : Cond.methodLink RL 37 (am_y 90) ∈ am_tb := am_tb_of (List.mem_of_getElem? (i := 891) rfl) rfl
set_option maxRecDepth 20000 in
theorem lk_X9_person : Cond.methodLink RL 38 (am_y 56) ∈ am_tb := am_tb_of (List.mem_of_getElem? (i := 467) rfl) rfl
set_option maxRecDepth 20000 in
theorem lk_X10_person : Cond.methodLink RL 42 (am_y 95) ∈ am_tb := am_tb_of (List.mem_of_getElem? (i := 896) rfl) rfl
set_option maxRecDepth 20000 in
theorem lk_X9_about : Cond.methodLink RL 43 (am_y 57) ∈ am_tb := am_tb_of (List.mem_of_getElem? (i := 519) rfl) rfl
set_option maxRecDepth 20000 in
theorem lk_X10_about : Cond.methodLink RL 47 (am_y 105) ∈ am_tb := am_tb_of (List.mem_of_getElem? (i := 917) rfl) rfl
set_option maxRecDepth 20000 in
theorem lk_X9_as : Cond.methodLink RL 48 (am_y 58) ∈ am_tb := am_tb_of (List.mem_of_getElem? (i := 524) rfl) rfl
set_option maxRecDepth 20000 in
theorem lk_X10_as : Cond.methodLink RL 51 (am_y 106) ∈ am_tb := am_tb_of (List.mem_of_getElem? (i := 953) rfl) rfl
set_option maxRecDepth 20000 in
theorem lk_X9_call : Cond.methodLink RL 52 (am_y 59) ∈ am_tb := am_tb_of (List.mem_of_getElem? (i := 528) rfl) rfl
set_option maxRecDepth 20000 in
theorem lk_X10_call : Cond.methodLink RL 55 (am_y 107) ∈ am_tb := am_tb_of (List.mem_of_getElem? (i := 957) rfl) rfl
set_option maxRecDepth 20000 in
theorem lk_X9_write : Cond.methodLink RL 56 (am_y 60) ∈ am_tb := am_tb_of (List.mem_of_getElem? (i := 533) rfl) rfl
set_option maxRecDepth 20000 in
theorem lk_X10_write : Cond.methodLink RL 59 (am_y 108) ∈ am_tb := am_tb_of (List.mem_of_getElem? (i := 961) rfl) rfl
set_option maxRecDepth 20000 in
theorem lk_X9_dies : Cond.methodLink RL 60 (am_y 61) ∈ am_tb := am_tb_of (List.mem_of_getElem? (i := 537) rfl) rfl
set_option maxRecDepth 20000 in
theorem lk_X10_dies : Cond.methodLink RL 63 (am_y 110) ∈ am_tb := am_tb_of (List.mem_of_getElem? (i := 966) rfl) rfl
set_option maxRecDepth 20000 in
theorem lk_X9_wrong : Cond.methodLink RL 64 (am_y 62) ∈ am_tb := am_tb_of (List.mem_of_getElem? (i := 545) rfl) rfl
set_option maxRecDepth 20000 in
theorem lk_X10_wrong : Cond.methodLink RL 67 (am_y 112) ∈ am_tb := am_tb_of (List.mem_of_getElem? (i := 974) rfl) rfl
set_option maxRecDepth 20000 in
theorem lk_X9_mended : Cond.methodLink RL 68 (am_y 63) ∈ am_tb := am_tb_of (List.mem_of_getElem? (i := 561) rfl) rfl
set_option maxRecDepth 20000 in
theorem lk_X10_mended : Cond.methodLink RL 71 (am_y 114) ∈ am_tb := am_tb_of (List.mem_of_getElem? (i := 986) rfl) rfl
set_option maxRecDepth 20000 in
theorem lk_X9_ways : Cond.methodLink RL 72 (am_y 64) ∈ am_tb := am_tb_of (List.mem_of_getElem? (i := 592) rfl) rfl
set_option maxRecDepth 20000 in
theorem lk_X10_ways : Cond.methodLink RL 75 (am_y 117) ∈ am_tb := am_tb_of (List.mem_of_getElem? (i := 994) rfl) rfl
set_option maxRecDepth 20000 in
theorem lk_X9_sure : Cond.methodLink RL 76 (am_y 65) ∈ am_tb := am_tb_of (List.mem_of_getElem? (i := 615) rfl) rfl
set_option maxRecDepth 20000 in
theorem lk_X10_sure : Cond.methodLink RL 79 (am_y 119) ∈ am_tb := am_tb_of (List.mem_of_getElem? (i := 1006) rfl) rfl
set_option maxRecDepth 20000 in
theorem lk_X9_laws : Cond.methodLink RL 80 (am_y 66) ∈ am_tb := am_tb_of (List.mem_of_getElem? (i := 619) rfl) rfl
set_option maxRecDepth 20000 in
theorem lk_X10_laws : Cond.methodLink RL 83 (am_y 122) ∈ am_tb := am_tb_of (List.mem_of_getElem? (i := 1014) rfl) rfl
set_option maxRecDepth 20000 in
theorem lk_X9_near : Cond.methodLink RL 84 (am_y 67) ∈ am_tb := am_tb_of (List.mem_of_getElem? (i := 641) rfl) rfl
set_option maxRecDepth 20000 in
theorem lk_X10_near : Cond.methodLink RL 87 (am_y 125) ∈ am_tb := am_tb_of (List.mem_of_getElem? (i := 1026) rfl) rfl
set_option maxRecDepth 20000 in
theorem lk_X9_kin : Cond.methodLink RL 88 (am_y 68) ∈ am_tb := am_tb_of (List.mem_of_getElem? (i := 649) rfl) rfl
set_option maxRecDepth 20000 in
theorem lk_X10_kin : Cond.methodLink RL 91 (am_y 127) ∈ am_tb := am_tb_of (List.mem_of_getElem? (i := 1038) rfl) rfl
set_option maxRecDepth 20000 in
theorem lk_X9_may : Cond.methodLink RL 92 (am_y 69) ∈ am_tb := am_tb_of (List.mem_of_getElem? (i := 658) rfl) rfl
set_option maxRecDepth 20000 in
theorem lk_X10_may : Cond.methodLink RL 95 (am_y 129) ∈ am_tb := am_tb_of (List.mem_of_getElem? (i := 1046) rfl) rfl
set_option maxRecDepth 20000 in
theorem lk_X9_couples : Cond.methodLink RL 96 (am_y 70) ∈ am_tb := am_tb_of (List.mem_of_getElem? (i := 667) rfl) rfl
set_option maxRecDepth 20000 in
theorem lk_X10_couples : Cond.methodLink RL 99 (am_y 132) ∈ am_tb := am_tb_of (List.mem_of_getElem? (i := 1054) rfl) rfl
set_option maxRecDepth 20000 in
theorem lk_X9_lasts : Cond.methodLink RL 100 (am_y 71) ∈ am_tb := am_tb_of (List.mem_of_getElem? (i := 691) rfl) rfl
set_option maxRecDepth 20000 in
theorem lk_X10_lasts : Cond.methodLink RL 103 (am_y 134) ∈ am_tb := am_tb_of (List.mem_of_getElem? (i := 1068) rfl) rfl
set_option maxRecDepth 20000 in
theorem lk_X9_image : Cond.methodLink RL 104 (am_y 72) ∈ am_tb := am_tb_of (List.mem_of_getElem? (i := 705) rfl) rfl
set_option maxRecDepth 20000 in
theorem lk_X10_image : Cond.methodLink RL 107 (am_y 135) ∈ am_tb := am_tb_of (List.mem_of_getElem? (i := 1076) rfl) rfl
set_option maxRecDepth 20000 in
theorem lk_X9_restore : Cond.methodLink RL 108 (am_y 73) ∈ am_tb := am_tb_of (List.mem_of_getElem? (i := 713) rfl) rfl
set_option maxRecDepth 20000 in
theorem lk_X10_restore : Cond.methodLink RL 111 (am_y 136) ∈ am_tb := am_tb_of (List.mem_of_getElem? (i := 1080) rfl) rfl
set_option maxRecDepth 20000 in
theorem lk_X9_count : Cond.methodLink RL 112 (am_y 74) ∈ am_tb := am_tb_of (List.mem_of_getElem? (i := 721) rfl) rfl
set_option maxRecDepth 20000 in
theorem lk_X10_count : Cond.methodLink RL 115 (am_y 139) ∈ am_tb := am_tb_of (List.mem_of_getElem? (i := 1084) rfl) rfl
set_option maxRecDepth 20000 in
theorem lk_X9_digest : Cond.methodLink RL 116 (am_y 75) ∈ am_tb := am_tb_of (List.mem_of_getElem? (i := 729) rfl) rfl
set_option maxRecDepth 20000 in
theorem lk_X10_digest : Cond.methodLink RL 120 (am_y 141) ∈ am_tb := am_tb_of (List.mem_of_getElem? (i := 1096) rfl) rfl
set_option maxRecDepth 20000 in
theorem lk_const : Cond.constantLong RL 13 4294967295 ∈ am_tb := am_tb_of (List.mem_of_getElem? (i := 1106) rfl) rfl
