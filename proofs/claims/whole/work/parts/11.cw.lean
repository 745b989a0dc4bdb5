set_option maxRecDepth 100000 in
theorem am_cw0 : Cond.code (am_md 0).2.1 (am_md 0).2.2.1 (am_md 0).2.2.2.1 (am_md 0).2.2.2.2.1 ∈ am_TB := List.mem_filter.mpr ⟨List.mem_of_getElem? (i := 98) rfl, rfl⟩
set_option maxRecDepth 100000 in
theorem am_cw1 : Cond.code (am_md 1).2.1 (am_md 1).2.2.1 (am_md 1).2.2.2.1 (am_md 1).2.2.2.2.1 ∈ am_TB := List.mem_filter.mpr ⟨List.mem_of_getElem? (i := 719) rfl, rfl⟩
set_option maxRecDepth 100000 in
theorem am_cw2 : Cond.code (am_md 2).2.1 (am_md 2).2.2.1 (am_md 2).2.2.2.1 (am_md 2).2.2.2.2.1 ∈ am_TB := List.mem_filter.mpr ⟨List.mem_of_getElem? (i := 382) rfl, rfl⟩
set_option maxRecDepth 100000 in
theorem am_cw3 : Cond.code (am_md 3).2.1 (am_md 3).2.2.1 (am_md 3).2.2.2.1 (am_md 3).2.2.2.2.1 ∈ am_TB := List.mem_filter.mpr ⟨List.mem_of_getElem? (i := 796) rfl, rfl⟩
set_option maxRecDepth 100000 in
theorem am_cw4 : Cond.code (am_md 4).2.1 (am_md 4).2.2.1 (am_md 4).2.2.2.1 (am_md 4).2.2.2.2.1 ∈ am_TB := List.mem_filter.mpr ⟨List.mem_of_getElem? (i := 386) rfl, rfl⟩
set_option maxRecDepth 100000 in
theorem am_cw5 : Cond.code (am_md 5).2.1 (am_md 5).2.2.1 (am_md 5).2.2.2.1 (am_md 5).2.2.2.2.1 ∈ am_TB := List.mem_filter.mpr ⟨List.mem_of_getElem? (i := 693) rfl, rfl⟩
set_option maxRecDepth 100000 in
theorem am_cw6 : Cond.code (am_md 6).2.1 (am_md 6).2.2.1 (am_md 6).2.2.2.1 (am_md 6).2.2.2.2.1 ∈ am_TB := List.mem_filter.mpr ⟨List.mem_of_getElem? (i := 824) rfl, rfl⟩
set_option maxRecDepth 100000 in
theorem am_cw7 : Cond.code (am_md 7).2.1 (am_md 7).2.2.1 (am_md 7).2.2.2.1 (am_md 7).2.2.2.2.1 ∈ am_TB := List.mem_filter.mpr ⟨List.mem_of_getElem? (i := 703) rfl, rfl⟩
set_option maxRecDepth 100000 in
theorem am_cw8 : Cond.code (am_md 8).2.1 (am_md 8).2.2.1 (am_md 8).2.2.2.1 (am_md 8).2.2.2.2.1 ∈ am_TB := List.mem_filter.mpr ⟨List.mem_of_getElem? (i := 707) rfl, rfl⟩
set_option maxRecDepth 100000 in
theorem am_cw9 : Cond.code (am_md 9).2.1 (am_md 9).2.2.1 (am_md 9).2.2.2.1 (am_md 9).2.2.2.2.1 ∈ am_TB := List.mem_filter.mpr ⟨List.mem_of_getElem? (i := 711) rfl, rfl⟩
set_option maxRecDepth 100000 in
theorem am_cw10 : Cond.code (am_md 10).2.1 (am_md 10).2.2.1 (am_md 10).2.2.2.1 (am_md 10).2.2.2.2.1 ∈ am_TB := List.mem_filter.mpr ⟨List.mem_of_getElem? (i := 722) rfl, rfl⟩
set_option maxRecDepth 100000 in
theorem am_cw11 : Cond.code (am_md 11).2.1 (am_md 11).2.2.1 (am_md 11).2.2.2.1 (am_md 11).2.2.2.2.1 ∈ am_TB := List.mem_filter.mpr ⟨List.mem_of_getElem? (i := 788) rfl, rfl⟩
set_option maxRecDepth 100000 in
theorem am_cw12 : Cond.code (am_md 12).2.1 (am_md 12).2.2.1 (am_md 12).2.2.2.1 (am_md 12).2.2.2.2.1 ∈ am_TB := List.mem_filter.mpr ⟨List.mem_of_getElem? (i := 697) rfl, rfl⟩
set_option maxRecDepth 100000 in
theorem am_cw13 : Cond.code (am_md 13).2.1 (am_md 13).2.2.1 (am_md 13).2.2.2.1 (am_md 13).2.2.2.2.1 ∈ am_TB := List.mem_filter.mpr ⟨List.mem_of_getElem? (i := 516) rfl, rfl⟩
set_option maxRecDepth 100000 in
theorem am_cw14 : Cond.code (am_md 14).2.1 (am_md 14).2.2.1 (am_md 14).2.2.2.1 (am_md 14).2.2.2.2.1 ∈ am_TB := List.mem_filter.mpr ⟨List.mem_of_getElem? (i := 565) rfl, rfl⟩
set_option maxRecDepth 100000 in
theorem am_cw15 : Cond.code (am_md 15).2.1 (am_md 15).2.2.1 (am_md 15).2.2.2.1 (am_md 15).2.2.2.2.1 ∈ am_TB := List.mem_filter.mpr ⟨List.mem_of_getElem? (i := 527) rfl, rfl⟩
set_option maxRecDepth 100000 in
theorem am_cw16 : Cond.code (am_md 16).2.1 (am_md 16).2.2.1 (am_md 16).2.2.2.1 (am_md 16).2.2.2.2.1 ∈ am_TB := List.mem_filter.mpr ⟨List.mem_of_getElem? (i := 568) rfl, rfl⟩
set_option maxRecDepth 100000 in
theorem am_cw17 : Cond.code (am_md 17).2.1 (am_md 17).2.2.1 (am_md 17).2.2.2.1 (am_md 17).2.2.2.2.1 ∈ am_TB := List.mem_filter.mpr ⟨List.mem_of_getElem? (i := 575) rfl, rfl⟩
set_option maxRecDepth 100000 in
theorem am_cw18 : Cond.code (am_md 18).2.1 (am_md 18).2.2.1 (am_md 18).2.2.2.1 (am_md 18).2.2.2.2.1 ∈ am_TB := List.mem_filter.mpr ⟨List.mem_of_getElem? (i := 831) rfl, rfl⟩
set_option maxRecDepth 100000 in
theorem am_cw19 : Cond.code (am_md 19).2.1 (am_md 19).2.2.1 (am_md 19).2.2.2.1 (am_md 19).2.2.2.2.1 ∈ am_TB := List.mem_filter.mpr ⟨List.mem_of_getElem? (i := 973) rfl, rfl⟩
set_option maxRecDepth 100000 in
theorem am_cw20 : Cond.code (am_md 20).2.1 (am_md 20).2.2.1 (am_md 20).2.2.2.1 (am_md 20).2.2.2.2.1 ∈ am_TB := List.mem_filter.mpr ⟨List.mem_of_getElem? (i := 985) rfl, rfl⟩
set_option maxRecDepth 100000 in
theorem am_cw21 : Cond.code (am_md 21).2.1 (am_md 21).2.2.1 (am_md 21).2.2.2.1 (am_md 21).2.2.2.2.1 ∈ am_TB := List.mem_filter.mpr ⟨List.mem_of_getElem? (i := 981) rfl, rfl⟩
set_option maxRecDepth 100000 in
theorem am_cw22 : Cond.code (am_md 22).2.1 (am_md 22).2.2.1 (am_md 22).2.2.2.1 (am_md 22).2.2.2.2.1 ∈ am_TB := List.mem_filter.mpr ⟨List.mem_of_getElem? (i := 977) rfl, rfl⟩
set_option maxRecDepth 100000 in
theorem am_cw23 : Cond.code (am_md 23).2.1 (am_md 23).2.2.1 (am_md 23).2.2.2.1 (am_md 23).2.2.2.2.1 ∈ am_TB := List.mem_filter.mpr ⟨List.mem_of_getElem? (i := 989) rfl, rfl⟩
set_option maxRecDepth 100000 in
theorem am_cw24 : Cond.code (am_md 24).2.1 (am_md 24).2.2.1 (am_md 24).2.2.2.1 (am_md 24).2.2.2.2.1 ∈ am_TB := List.mem_filter.mpr ⟨List.mem_of_getElem? (i := 1031) rfl, rfl⟩
set_option maxRecDepth 100000 in
theorem am_cw25 : Cond.code (am_md 25).2.1 (am_md 25).2.2.1 (am_md 25).2.2.2.1 (am_md 25).2.2.2.2.1 ∈ am_TB := List.mem_filter.mpr ⟨List.mem_of_getElem? (i := 1005) rfl, rfl⟩
set_option maxRecDepth 100000 in
theorem am_cw26 : Cond.code (am_md 26).2.1 (am_md 26).2.2.1 (am_md 26).2.2.2.1 (am_md 26).2.2.2.2.1 ∈ am_TB := List.mem_filter.mpr ⟨List.mem_of_getElem? (i := 1009) rfl, rfl⟩
set_option maxRecDepth 100000 in
theorem am_cw27 : Cond.code (am_md 27).2.1 (am_md 27).2.2.1 (am_md 27).2.2.2.1 (am_md 27).2.2.2.2.1 ∈ am_TB := List.mem_filter.mpr ⟨List.mem_of_getElem? (i := 1016) rfl, rfl⟩
set_option maxRecDepth 100000 in
theorem am_cw28 : Cond.code (am_md 28).2.1 (am_md 28).2.2.1 (am_md 28).2.2.2.1 (am_md 28).2.2.2.2.1 ∈ am_TB := List.mem_filter.mpr ⟨List.mem_of_getElem? (i := 1027) rfl, rfl⟩
set_option maxRecDepth 100000 in
theorem am_cw29 : Cond.code (am_md 29).2.1 (am_md 29).2.2.1 (am_md 29).2.2.2.1 (am_md 29).2.2.2.2.1 ∈ am_TB := List.mem_filter.mpr ⟨List.mem_of_getElem? (i := 1039) rfl, rfl⟩
set_option maxRecDepth 100000 in
theorem am_cw30 : Cond.code (am_md 30).2.1 (am_md 30).2.2.1 (am_md 30).2.2.2.1 (am_md 30).2.2.2.2.1 ∈ am_TB := List.mem_filter.mpr ⟨List.mem_of_getElem? (i := 1020) rfl, rfl⟩
set_option maxRecDepth 100000 in
theorem am_cw31 : Cond.code (am_md 31).2.1 (am_md 31).2.2.1 (am_md 31).2.2.2.1 (am_md 31).2.2.2.2.1 ∈ am_TB := List.mem_filter.mpr ⟨List.mem_of_getElem? (i := 1023) rfl, rfl⟩
set_option maxRecDepth 100000 in
theorem am_cw32 : Cond.code (am_md 32).2.1 (am_md 32).2.2.1 (am_md 32).2.2.2.1 (am_md 32).2.2.2.2.1 ∈ am_TB := List.mem_filter.mpr ⟨List.mem_of_getElem? (i := 1012) rfl, rfl⟩
set_option maxRecDepth 100000 in
theorem am_cw33 : Cond.code (am_md 33).2.1 (am_md 33).2.2.1 (am_md 33).2.2.2.1 (am_md 33).2.2.2.2.1 ∈ am_TB := List.mem_filter.mpr ⟨List.mem_of_getElem? (i := 1001) rfl, rfl⟩
set_option maxRecDepth 100000 in
theorem am_cw34 : Cond.code (am_md 34).2.1 (am_md 34).2.2.1 (am_md 34).2.2.2.1 (am_md 34).2.2.2.2.1 ∈ am_TB := List.mem_filter.mpr ⟨List.mem_of_getElem? (i := 1035) rfl, rfl⟩
set_option maxRecDepth 100000 in
theorem am_cw35 : Cond.code (am_md 35).2.1 (am_md 35).2.2.1 (am_md 35).2.2.2.1 (am_md 35).2.2.2.2.1 ∈ am_TB := List.mem_filter.mpr ⟨List.mem_of_getElem? (i := 1050) rfl, rfl⟩
set_option maxRecDepth 100000 in
theorem am_cw36 : Cond.code (am_md 36).2.1 (am_md 36).2.2.1 (am_md 36).2.2.2.1 (am_md 36).2.2.2.2.1 ∈ am_TB := List.mem_filter.mpr ⟨List.mem_of_getElem? (i := 1069) rfl, rfl⟩
set_option maxRecDepth 100000 in
theorem am_cw37 : Cond.code (am_md 37).2.1 (am_md 37).2.2.1 (am_md 37).2.2.2.1 (am_md 37).2.2.2.2.1 ∈ am_TB := List.mem_filter.mpr ⟨List.mem_of_getElem? (i := 1066) rfl, rfl⟩
set_option maxRecDepth 100000 in
theorem am_cw38 : Cond.code (am_md 38).2.1 (am_md 38).2.2.1 (am_md 38).2.2.2.1 (am_md 38).2.2.2.2.1 ∈ am_TB := List.mem_filter.mpr ⟨List.mem_of_getElem? (i := 1109) rfl, rfl⟩
set_option maxRecDepth 100000 in
theorem am_cw39 : Cond.code (am_md 39).2.1 (am_md 39).2.2.1 (am_md 39).2.2.2.1 (am_md 39).2.2.2.2.1 ∈ am_TB := List.mem_filter.mpr ⟨List.mem_of_getElem? (i := 1062) rfl, rfl⟩
set_option maxRecDepth 100000 in
theorem am_cw40 : Cond.code (am_md 40).2.1 (am_md 40).2.2.1 (am_md 40).2.2.2.1 (am_md 40).2.2.2.2.1 ∈ am_TB := List.mem_filter.mpr ⟨List.mem_of_getElem? (i := 1097) rfl, rfl⟩
set_option maxRecDepth 100000 in
theorem am_cw41 : Cond.code (am_md 41).2.1 (am_md 41).2.2.1 (am_md 41).2.2.2.1 (am_md 41).2.2.2.2.1 ∈ am_TB := List.mem_filter.mpr ⟨List.mem_of_getElem? (i := 1101) rfl, rfl⟩
set_option maxRecDepth 100000 in
theorem am_cw42 : Cond.code (am_md 42).2.1 (am_md 42).2.2.1 (am_md 42).2.2.2.1 (am_md 42).2.2.2.2.1 ∈ am_TB := List.mem_filter.mpr ⟨List.mem_of_getElem? (i := 1089) rfl, rfl⟩
set_option maxRecDepth 100000 in
theorem am_cw43 : Cond.code (am_md 43).2.1 (am_md 43).2.2.1 (am_md 43).2.2.2.1 (am_md 43).2.2.2.2.1 ∈ am_TB := List.mem_filter.mpr ⟨List.mem_of_getElem? (i := 1093) rfl, rfl⟩
set_option maxRecDepth 100000 in
theorem am_cw44 : Cond.code (am_md 44).2.1 (am_md 44).2.2.1 (am_md 44).2.2.2.1 (am_md 44).2.2.2.2.1 ∈ am_TB := List.mem_filter.mpr ⟨List.mem_of_getElem? (i := 1085) rfl, rfl⟩
set_option maxRecDepth 100000 in
theorem am_cw45 : Cond.code (am_md 45).2.1 (am_md 45).2.2.1 (am_md 45).2.2.2.1 (am_md 45).2.2.2.2.1 ∈ am_TB := List.mem_filter.mpr ⟨List.mem_of_getElem? (i := 1081) rfl, rfl⟩
set_option maxRecDepth 100000 in
theorem am_cw46 : Cond.code (am_md 46).2.1 (am_md 46).2.2.1 (am_md 46).2.2.2.1 (am_md 46).2.2.2.2.1 ∈ am_TB := List.mem_filter.mpr ⟨List.mem_of_getElem? (i := 1073) rfl, rfl⟩
set_option maxRecDepth 100000 in
theorem am_cw47 : Cond.code (am_md 47).2.1 (am_md 47).2.2.1 (am_md 47).2.2.2.1 (am_md 47).2.2.2.2.1 ∈ am_TB := List.mem_filter.mpr ⟨List.mem_of_getElem? (i := 1058) rfl, rfl⟩
set_option maxRecDepth 100000 in
theorem am_cw48 : Cond.code (am_md 48).2.1 (am_md 48).2.2.1 (am_md 48).2.2.2.1 (am_md 48).2.2.2.2.1 ∈ am_TB := List.mem_filter.mpr ⟨List.mem_of_getElem? (i := 1113) rfl, rfl⟩
set_option maxRecDepth 100000 in
theorem am_cw49 : Cond.code (am_md 49).2.1 (am_md 49).2.2.1 (am_md 49).2.2.2.1 (am_md 49).2.2.2.2.1 ∈ am_TB := List.mem_filter.mpr ⟨List.mem_of_getElem? (i := 1054) rfl, rfl⟩
set_option maxRecDepth 100000 in
theorem am_cw50 : Cond.code (am_md 50).2.1 (am_md 50).2.2.1 (am_md 50).2.2.2.1 (am_md 50).2.2.2.2.1 ∈ am_TB := List.mem_filter.mpr ⟨List.mem_of_getElem? (i := 1047) rfl, rfl⟩
set_option maxRecDepth 100000 in
theorem am_cw51 : Cond.code (am_md 51).2.1 (am_md 51).2.2.1 (am_md 51).2.2.2.1 (am_md 51).2.2.2.2.1 ∈ am_TB := List.mem_filter.mpr ⟨List.mem_of_getElem? (i := 1043) rfl, rfl⟩
set_option maxRecDepth 100000 in
theorem am_cw52 : Cond.code (am_md 52).2.1 (am_md 52).2.2.1 (am_md 52).2.2.2.1 (am_md 52).2.2.2.2.1 ∈ am_TB := List.mem_filter.mpr ⟨List.mem_of_getElem? (i := 1077) rfl, rfl⟩
set_option maxRecDepth 100000 in
theorem am_cw53 : Cond.code (am_md 53).2.1 (am_md 53).2.2.1 (am_md 53).2.2.2.1 (am_md 53).2.2.2.2.1 ∈ am_TB := List.mem_filter.mpr ⟨List.mem_of_getElem? (i := 1105) rfl, rfl⟩
set_option maxRecDepth 100000 in
theorem am_cw54 : Cond.code (am_md 54).2.1 (am_md 54).2.2.1 (am_md 54).2.2.2.1 (am_md 54).2.2.2.2.1 ∈ am_TB := List.mem_filter.mpr ⟨List.mem_of_getElem? (i := 1117) rfl, rfl⟩
set_option maxRecDepth 100000 in
theorem am_cw55 : Cond.code (am_md 55).2.1 (am_md 55).2.2.1 (am_md 55).2.2.2.1 (am_md 55).2.2.2.2.1 ∈ am_TB := List.mem_filter.mpr ⟨List.mem_of_getElem? (i := 997) rfl, rfl⟩
set_option maxRecDepth 100000 in
theorem am_cw56 : Cond.code (am_md 56).2.1 (am_md 56).2.2.1 (am_md 56).2.2.2.1 (am_md 56).2.2.2.2.1 ∈ am_TB := List.mem_filter.mpr ⟨List.mem_of_getElem? (i := 1133) rfl, rfl⟩
set_option maxRecDepth 100000 in
theorem am_cw57 : Cond.code (am_md 57).2.1 (am_md 57).2.2.1 (am_md 57).2.2.2.1 (am_md 57).2.2.2.2.1 ∈ am_TB := List.mem_filter.mpr ⟨List.mem_of_getElem? (i := 1129) rfl, rfl⟩
set_option maxRecDepth 100000 in
theorem am_cw58 : Cond.code (am_md 58).2.1 (am_md 58).2.2.1 (am_md 58).2.2.2.1 (am_md 58).2.2.2.2.1 ∈ am_TB := List.mem_filter.mpr ⟨List.mem_of_getElem? (i := 1149) rfl, rfl⟩
set_option maxRecDepth 100000 in
theorem am_cw59 : Cond.code (am_md 59).2.1 (am_md 59).2.2.1 (am_md 59).2.2.2.1 (am_md 59).2.2.2.2.1 ∈ am_TB := List.mem_filter.mpr ⟨List.mem_of_getElem? (i := 1145) rfl, rfl⟩
set_option maxRecDepth 100000 in
theorem am_cw60 : Cond.code (am_md 60).2.1 (am_md 60).2.2.1 (am_md 60).2.2.2.1 (am_md 60).2.2.2.2.1 ∈ am_TB := List.mem_filter.mpr ⟨List.mem_of_getElem? (i := 1141) rfl, rfl⟩
set_option maxRecDepth 100000 in
theorem am_cw61 : Cond.code (am_md 61).2.1 (am_md 61).2.2.1 (am_md 61).2.2.2.1 (am_md 61).2.2.2.2.1 ∈ am_TB := List.mem_filter.mpr ⟨List.mem_of_getElem? (i := 1153) rfl, rfl⟩
set_option maxRecDepth 100000 in
theorem am_cw62 : Cond.code (am_md 62).2.1 (am_md 62).2.2.1 (am_md 62).2.2.2.1 (am_md 62).2.2.2.2.1 ∈ am_TB := List.mem_filter.mpr ⟨List.mem_of_getElem? (i := 1125) rfl, rfl⟩
set_option maxRecDepth 100000 in
theorem am_cw63 : Cond.code (am_md 63).2.1 (am_md 63).2.2.1 (am_md 63).2.2.2.1 (am_md 63).2.2.2.2.1 ∈ am_TB := List.mem_filter.mpr ⟨List.mem_of_getElem? (i := 1137) rfl, rfl⟩
set_option maxRecDepth 100000 in
theorem am_cw64 : Cond.code (am_md 64).2.1 (am_md 64).2.2.1 (am_md 64).2.2.2.1 (am_md 64).2.2.2.2.1 ∈ am_TB := List.mem_filter.mpr ⟨List.mem_of_getElem? (i := 993) rfl, rfl⟩
set_option maxRecDepth 100000 in
theorem am_cw65 : Cond.code (am_md 65).2.1 (am_md 65).2.2.1 (am_md 65).2.2.2.1 (am_md 65).2.2.2.2.1 ∈ am_TB := List.mem_filter.mpr ⟨List.mem_of_getElem? (i := 1121) rfl, rfl⟩
set_option maxRecDepth 100000 in
theorem am_cw66 : Cond.code (am_md 66).2.1 (am_md 66).2.2.1 (am_md 66).2.2.2.1 (am_md 66).2.2.2.2.1 ∈ am_TB := List.mem_filter.mpr ⟨List.mem_of_getElem? (i := 1157) rfl, rfl⟩
set_option maxRecDepth 100000 in
theorem am_cw67 : Cond.code (am_md 67).2.1 (am_md 67).2.2.1 (am_md 67).2.2.2.1 (am_md 67).2.2.2.2.1 ∈ am_TB := List.mem_filter.mpr ⟨List.mem_of_getElem? (i := 1165) rfl, rfl⟩
set_option maxRecDepth 100000 in
theorem am_cw68 : Cond.code (am_md 68).2.1 (am_md 68).2.2.1 (am_md 68).2.2.2.1 (am_md 68).2.2.2.2.1 ∈ am_TB := List.mem_filter.mpr ⟨List.mem_of_getElem? (i := 1161) rfl, rfl⟩
set_option maxRecDepth 100000 in
theorem am_cw69 : Cond.code (am_md 69).2.1 (am_md 69).2.2.1 (am_md 69).2.2.2.1 (am_md 69).2.2.2.2.1 ∈ am_TB := List.mem_filter.mpr ⟨List.mem_of_getElem? (i := 1169) rfl, rfl⟩
set_option maxRecDepth 100000 in
theorem am_cw70 : Cond.code (am_md 70).2.1 (am_md 70).2.2.1 (am_md 70).2.2.2.1 (am_md 70).2.2.2.2.1 ∈ am_TB := List.mem_filter.mpr ⟨List.mem_of_getElem? (i := 1173) rfl, rfl⟩
set_option maxRecDepth 100000 in
theorem am_cw71 : Cond.code (am_md 71).2.1 (am_md 71).2.2.1 (am_md 71).2.2.2.1 (am_md 71).2.2.2.2.1 ∈ am_TB := List.mem_filter.mpr ⟨List.mem_of_getElem? (i := 1177) rfl, rfl⟩
set_option maxRecDepth 100000 in
theorem am_cw72 : Cond.code (am_md 72).2.1 (am_md 72).2.2.1 (am_md 72).2.2.2.1 (am_md 72).2.2.2.2.1 ∈ am_TB := List.mem_filter.mpr ⟨List.mem_of_getElem? (i := 122) rfl, rfl⟩
set_option maxRecDepth 100000 in
theorem am_cw73 : Cond.code (am_md 73).2.1 (am_md 73).2.2.1 (am_md 73).2.2.2.1 (am_md 73).2.2.2.2.1 ∈ am_TB := List.mem_filter.mpr ⟨List.mem_of_getElem? (i := 548) rfl, rfl⟩
set_option maxRecDepth 100000 in
theorem am_cw74 : Cond.code (am_md 74).2.1 (am_md 74).2.2.1 (am_md 74).2.2.2.1 (am_md 74).2.2.2.2.1 ∈ am_TB := List.mem_filter.mpr ⟨List.mem_of_getElem? (i := 580) rfl, rfl⟩
set_option maxRecDepth 100000 in
theorem am_cw75 : Cond.code (am_md 75).2.1 (am_md 75).2.2.1 (am_md 75).2.2.2.1 (am_md 75).2.2.2.2.1 ∈ am_TB := List.mem_filter.mpr ⟨List.mem_of_getElem? (i := 106) rfl, rfl⟩
set_option maxRecDepth 100000 in
theorem am_cw76 : Cond.code (am_md 76).2.1 (am_md 76).2.2.1 (am_md 76).2.2.2.1 (am_md 76).2.2.2.2.1 ∈ am_TB := List.mem_filter.mpr ⟨List.mem_of_getElem? (i := 390) rfl, rfl⟩
set_option maxRecDepth 100000 in
theorem am_cw77 : Cond.code (am_md 77).2.1 (am_md 77).2.2.1 (am_md 77).2.2.2.1 (am_md 77).2.2.2.2.1 ∈ am_TB := List.mem_filter.mpr ⟨List.mem_of_getElem? (i := 421) rfl, rfl⟩
set_option maxRecDepth 100000 in
theorem am_cw78 : Cond.code (am_md 78).2.1 (am_md 78).2.2.1 (am_md 78).2.2.2.1 (am_md 78).2.2.2.2.1 ∈ am_TB := List.mem_filter.mpr ⟨List.mem_of_getElem? (i := 154) rfl, rfl⟩
set_option maxRecDepth 100000 in
theorem am_cw79 : Cond.code (am_md 79).2.1 (am_md 79).2.2.1 (am_md 79).2.2.2.1 (am_md 79).2.2.2.2.1 ∈ am_TB := List.mem_filter.mpr ⟨List.mem_of_getElem? (i := 490) rfl, rfl⟩
set_option maxRecDepth 100000 in
theorem am_cw80 : Cond.code (am_md 80).2.1 (am_md 80).2.2.1 (am_md 80).2.2.2.1 (am_md 80).2.2.2.2.1 ∈ am_TB := List.mem_filter.mpr ⟨List.mem_of_getElem? (i := 816) rfl, rfl⟩
set_option maxRecDepth 100000 in
theorem am_cw81 : Cond.code (am_md 81).2.1 (am_md 81).2.2.1 (am_md 81).2.2.2.1 (am_md 81).2.2.2.2.1 ∈ am_TB := List.mem_filter.mpr ⟨List.mem_of_getElem? (i := 229) rfl, rfl⟩
set_option maxRecDepth 100000 in
theorem am_cw82 : Cond.code (am_md 82).2.1 (am_md 82).2.2.1 (am_md 82).2.2.2.1 (am_md 82).2.2.2.2.1 ∈ am_TB := List.mem_filter.mpr ⟨List.mem_of_getElem? (i := 398) rfl, rfl⟩
set_option maxRecDepth 100000 in
theorem am_cw83 : Cond.code (am_md 83).2.1 (am_md 83).2.2.1 (am_md 83).2.2.2.1 (am_md 83).2.2.2.2.1 ∈ am_TB := List.mem_filter.mpr ⟨List.mem_of_getElem? (i := 410) rfl, rfl⟩
set_option maxRecDepth 100000 in
theorem am_cw84 : Cond.code (am_md 84).2.1 (am_md 84).2.2.1 (am_md 84).2.2.2.1 (am_md 84).2.2.2.2.1 ∈ am_TB := List.mem_filter.mpr ⟨List.mem_of_getElem? (i := 414) rfl, rfl⟩
set_option maxRecDepth 100000 in
theorem am_cw85 : Cond.code (am_md 85).2.1 (am_md 85).2.2.1 (am_md 85).2.2.2.1 (am_md 85).2.2.2.2.1 ∈ am_TB := List.mem_filter.mpr ⟨List.mem_of_getElem? (i := 425) rfl, rfl⟩
set_option maxRecDepth 100000 in
theorem am_cw86 : Cond.code (am_md 86).2.1 (am_md 86).2.2.1 (am_md 86).2.2.2.1 (am_md 86).2.2.2.2.1 ∈ am_TB := List.mem_filter.mpr ⟨List.mem_of_getElem? (i := 463) rfl, rfl⟩
set_option maxRecDepth 100000 in
theorem am_cw87 : Cond.code (am_md 87).2.1 (am_md 87).2.2.1 (am_md 87).2.2.2.1 (am_md 87).2.2.2.2.1 ∈ am_TB := List.mem_filter.mpr ⟨List.mem_of_getElem? (i := 475) rfl, rfl⟩
set_option maxRecDepth 100000 in
theorem am_cw88 : Cond.code (am_md 88).2.1 (am_md 88).2.2.1 (am_md 88).2.2.2.1 (am_md 88).2.2.2.2.1 ∈ am_TB := List.mem_filter.mpr ⟨List.mem_of_getElem? (i := 479) rfl, rfl⟩
set_option maxRecDepth 100000 in
theorem am_cw89 : Cond.code (am_md 89).2.1 (am_md 89).2.2.1 (am_md 89).2.2.2.1 (am_md 89).2.2.2.2.1 ∈ am_TB := List.mem_filter.mpr ⟨List.mem_of_getElem? (i := 483) rfl, rfl⟩
set_option maxRecDepth 100000 in
theorem am_cw90 : Cond.code (am_md 90).2.1 (am_md 90).2.2.1 (am_md 90).2.2.2.1 (am_md 90).2.2.2.2.1 ∈ am_TB := List.mem_filter.mpr ⟨List.mem_of_getElem? (i := 417) rfl, rfl⟩
set_option maxRecDepth 100000 in
theorem am_cw91 : Cond.code (am_md 91).2.1 (am_md 91).2.2.1 (am_md 91).2.2.2.1 (am_md 91).2.2.2.2.1 ∈ am_TB := List.mem_filter.mpr ⟨List.mem_of_getElem? (i := 486) rfl, rfl⟩
set_option maxRecDepth 100000 in
theorem am_cw92 : Cond.code (am_md 92).2.1 (am_md 92).2.2.1 (am_md 92).2.2.2.1 (am_md 92).2.2.2.2.1 ∈ am_TB := List.mem_filter.mpr ⟨List.mem_of_getElem? (i := 459) rfl, rfl⟩
set_option maxRecDepth 100000 in
theorem am_cw93 : Cond.code (am_md 93).2.1 (am_md 93).2.2.1 (am_md 93).2.2.2.1 (am_md 93).2.2.2.2.1 ∈ am_TB := List.mem_filter.mpr ⟨List.mem_of_getElem? (i := 406) rfl, rfl⟩
set_option maxRecDepth 100000 in
theorem am_cw94 : Cond.code (am_md 94).2.1 (am_md 94).2.2.1 (am_md 94).2.2.2.1 (am_md 94).2.2.2.2.1 ∈ am_TB := List.mem_filter.mpr ⟨List.mem_of_getElem? (i := 433) rfl, rfl⟩
set_option maxRecDepth 100000 in
theorem am_cw95 : Cond.code (am_md 95).2.1 (am_md 95).2.2.1 (am_md 95).2.2.2.1 (am_md 95).2.2.2.2.1 ∈ am_TB := List.mem_filter.mpr ⟨List.mem_of_getElem? (i := 467) rfl, rfl⟩
set_option maxRecDepth 100000 in
theorem am_cw96 : Cond.code (am_md 96).2.1 (am_md 96).2.2.1 (am_md 96).2.2.2.1 (am_md 96).2.2.2.2.1 ∈ am_TB := List.mem_filter.mpr ⟨List.mem_of_getElem? (i := 456) rfl, rfl⟩
set_option maxRecDepth 100000 in
theorem am_cw97 : Cond.code (am_md 97).2.1 (am_md 97).2.2.1 (am_md 97).2.2.2.1 (am_md 97).2.2.2.2.1 ∈ am_TB := List.mem_filter.mpr ⟨List.mem_of_getElem? (i := 441) rfl, rfl⟩
set_option maxRecDepth 100000 in
theorem am_cw98 : Cond.code (am_md 98).2.1 (am_md 98).2.2.1 (am_md 98).2.2.2.1 (am_md 98).2.2.2.2.1 ∈ am_TB := List.mem_filter.mpr ⟨List.mem_of_getElem? (i := 448) rfl, rfl⟩
set_option maxRecDepth 100000 in
theorem am_cw99 : Cond.code (am_md 99).2.1 (am_md 99).2.2.1 (am_md 99).2.2.2.1 (am_md 99).2.2.2.2.1 ∈ am_TB := List.mem_filter.mpr ⟨List.mem_of_getElem? (i := 429) rfl, rfl⟩
set_option maxRecDepth 100000 in
theorem am_cw100 : Cond.code (am_md 100).2.1 (am_md 100).2.2.1 (am_md 100).2.2.2.1 (am_md 100).2.2.2.2.1 ∈ am_TB := List.mem_filter.mpr ⟨List.mem_of_getElem? (i := 452) rfl, rfl⟩
set_option maxRecDepth 100000 in
theorem am_cw101 : Cond.code (am_md 101).2.1 (am_md 101).2.2.1 (am_md 101).2.2.2.1 (am_md 101).2.2.2.2.1 ∈ am_TB := List.mem_filter.mpr ⟨List.mem_of_getElem? (i := 292) rfl, rfl⟩
set_option maxRecDepth 100000 in
theorem am_cw102 : Cond.code (am_md 102).2.1 (am_md 102).2.2.1 (am_md 102).2.2.2.1 (am_md 102).2.2.2.2.1 ∈ am_TB := List.mem_filter.mpr ⟨List.mem_of_getElem? (i := 520) rfl, rfl⟩
set_option maxRecDepth 100000 in
theorem am_cw103 : Cond.code (am_md 103).2.1 (am_md 103).2.2.1 (am_md 103).2.2.2.1 (am_md 103).2.2.2.2.1 ∈ am_TB := List.mem_filter.mpr ⟨List.mem_of_getElem? (i := 523) rfl, rfl⟩
set_option maxRecDepth 100000 in
theorem am_cw104 : Cond.code (am_md 104).2.1 (am_md 104).2.2.1 (am_md 104).2.2.2.1 (am_md 104).2.2.2.2.1 ∈ am_TB := List.mem_filter.mpr ⟨List.mem_of_getElem? (i := 530) rfl, rfl⟩
set_option maxRecDepth 100000 in
theorem am_cw105 : Cond.code (am_md 105).2.1 (am_md 105).2.2.1 (am_md 105).2.2.2.1 (am_md 105).2.2.2.2.1 ∈ am_TB := List.mem_filter.mpr ⟨List.mem_of_getElem? (i := 533) rfl, rfl⟩
set_option maxRecDepth 100000 in
theorem am_cw106 : Cond.code (am_md 106).2.1 (am_md 106).2.2.1 (am_md 106).2.2.2.1 (am_md 106).2.2.2.2.1 ∈ am_TB := List.mem_filter.mpr ⟨List.mem_of_getElem? (i := 538) rfl, rfl⟩
set_option maxRecDepth 100000 in
theorem am_cw107 : Cond.code (am_md 107).2.1 (am_md 107).2.2.1 (am_md 107).2.2.2.1 (am_md 107).2.2.2.2.1 ∈ am_TB := List.mem_filter.mpr ⟨List.mem_of_getElem? (i := 585) rfl, rfl⟩
set_option maxRecDepth 100000 in
theorem am_cw108 : Cond.code (am_md 108).2.1 (am_md 108).2.2.1 (am_md 108).2.2.2.1 (am_md 108).2.2.2.2.1 ∈ am_TB := List.mem_filter.mpr ⟨List.mem_of_getElem? (i := 161) rfl, rfl⟩
set_option maxRecDepth 100000 in
theorem am_cw109 : Cond.code (am_md 109).2.1 (am_md 109).2.2.1 (am_md 109).2.2.2.1 (am_md 109).2.2.2.2.1 ∈ am_TB := List.mem_filter.mpr ⟨List.mem_of_getElem? (i := 402) rfl, rfl⟩
set_option maxRecDepth 100000 in
theorem am_cw110 : Cond.code (am_md 110).2.1 (am_md 110).2.2.1 (am_md 110).2.2.2.1 (am_md 110).2.2.2.2.1 ∈ am_TB := List.mem_filter.mpr ⟨List.mem_of_getElem? (i := 437) rfl, rfl⟩
set_option maxRecDepth 100000 in
theorem am_cw111 : Cond.code (am_md 111).2.1 (am_md 111).2.2.1 (am_md 111).2.2.2.1 (am_md 111).2.2.2.2.1 ∈ am_TB := List.mem_filter.mpr ⟨List.mem_of_getElem? (i := 543) rfl, rfl⟩
set_option maxRecDepth 100000 in
theorem am_cw112 : Cond.code (am_md 112).2.1 (am_md 112).2.2.1 (am_md 112).2.2.2.1 (am_md 112).2.2.2.2.1 ∈ am_TB := List.mem_filter.mpr ⟨List.mem_of_getElem? (i := 572) rfl, rfl⟩
set_option maxRecDepth 100000 in
theorem am_cw113 : Cond.code (am_md 113).2.1 (am_md 113).2.2.1 (am_md 113).2.2.2.1 (am_md 113).2.2.2.2.1 ∈ am_TB := List.mem_filter.mpr ⟨List.mem_of_getElem? (i := 590) rfl, rfl⟩
set_option maxRecDepth 100000 in
theorem am_cw114 : Cond.code (am_md 114).2.1 (am_md 114).2.2.1 (am_md 114).2.2.2.1 (am_md 114).2.2.2.2.1 ∈ am_TB := List.mem_filter.mpr ⟨List.mem_of_getElem? (i := 471) rfl, rfl⟩
set_option maxRecDepth 100000 in
theorem am_cw115 : Cond.code (am_md 115).2.1 (am_md 115).2.2.1 (am_md 115).2.2.2.1 (am_md 115).2.2.2.2.1 ∈ am_TB := List.mem_filter.mpr ⟨List.mem_of_getElem? (i := 512) rfl, rfl⟩
set_option maxRecDepth 100000 in
theorem am_cw116 : Cond.code (am_md 116).2.1 (am_md 116).2.2.1 (am_md 116).2.2.2.1 (am_md 116).2.2.2.2.1 ∈ am_TB := List.mem_filter.mpr ⟨List.mem_of_getElem? (i := 612) rfl, rfl⟩
set_option maxRecDepth 100000 in
theorem am_cw117 : Cond.code (am_md 117).2.1 (am_md 117).2.2.1 (am_md 117).2.2.2.1 (am_md 117).2.2.2.2.1 ∈ am_TB := List.mem_filter.mpr ⟨List.mem_of_getElem? (i := 596) rfl, rfl⟩
set_option maxRecDepth 100000 in
theorem am_cw118 : Cond.code (am_md 118).2.1 (am_md 118).2.2.1 (am_md 118).2.2.2.1 (am_md 118).2.2.2.2.1 ∈ am_TB := List.mem_filter.mpr ⟨List.mem_of_getElem? (i := 653) rfl, rfl⟩
set_option maxRecDepth 100000 in
theorem am_cw119 : Cond.code (am_md 119).2.1 (am_md 119).2.2.1 (am_md 119).2.2.2.1 (am_md 119).2.2.2.2.1 ∈ am_TB := List.mem_filter.mpr ⟨List.mem_of_getElem? (i := 310) rfl, rfl⟩
set_option maxRecDepth 100000 in
theorem am_cw120 : Cond.code (am_md 120).2.1 (am_md 120).2.2.1 (am_md 120).2.2.2.1 (am_md 120).2.2.2.2.1 ∈ am_TB := List.mem_filter.mpr ⟨List.mem_of_getElem? (i := 394) rfl, rfl⟩
set_option maxRecDepth 100000 in
theorem am_cw121 : Cond.code (am_md 121).2.1 (am_md 121).2.2.1 (am_md 121).2.2.2.1 (am_md 121).2.2.2.2.1 ∈ am_TB := List.mem_filter.mpr ⟨List.mem_of_getElem? (i := 638) rfl, rfl⟩
set_option maxRecDepth 100000 in
theorem am_cw122 : Cond.code (am_md 122).2.1 (am_md 122).2.2.1 (am_md 122).2.2.2.1 (am_md 122).2.2.2.2.1 ∈ am_TB := List.mem_filter.mpr ⟨List.mem_of_getElem? (i := 498) rfl, rfl⟩
set_option maxRecDepth 100000 in
theorem am_cw123 : Cond.code (am_md 123).2.1 (am_md 123).2.2.1 (am_md 123).2.2.2.1 (am_md 123).2.2.2.2.1 ∈ am_TB := List.mem_filter.mpr ⟨List.mem_of_getElem? (i := 494) rfl, rfl⟩
set_option maxRecDepth 100000 in
theorem am_cw124 : Cond.code (am_md 124).2.1 (am_md 124).2.2.1 (am_md 124).2.2.2.1 (am_md 124).2.2.2.2.1 ∈ am_TB := List.mem_filter.mpr ⟨List.mem_of_getElem? (i := 626) rfl, rfl⟩
set_option maxRecDepth 100000 in
theorem am_cw125 : Cond.code (am_md 125).2.1 (am_md 125).2.2.1 (am_md 125).2.2.2.1 (am_md 125).2.2.2.2.1 ∈ am_TB := List.mem_filter.mpr ⟨List.mem_of_getElem? (i := 604) rfl, rfl⟩
set_option maxRecDepth 100000 in
theorem am_cw126 : Cond.code (am_md 126).2.1 (am_md 126).2.2.1 (am_md 126).2.2.2.1 (am_md 126).2.2.2.2.1 ∈ am_TB := List.mem_filter.mpr ⟨List.mem_of_getElem? (i := 504) rfl, rfl⟩
set_option maxRecDepth 100000 in
theorem am_cw127 : Cond.code (am_md 127).2.1 (am_md 127).2.2.1 (am_md 127).2.2.2.1 (am_md 127).2.2.2.2.1 ∈ am_TB := List.mem_filter.mpr ⟨List.mem_of_getElem? (i := 508) rfl, rfl⟩
set_option maxRecDepth 100000 in
theorem am_cw128 : Cond.code (am_md 128).2.1 (am_md 128).2.2.1 (am_md 128).2.2.2.1 (am_md 128).2.2.2.2.1 ∈ am_TB := List.mem_filter.mpr ⟨List.mem_of_getElem? (i := 608) rfl, rfl⟩
set_option maxRecDepth 100000 in
theorem am_cw129 : Cond.code (am_md 129).2.1 (am_md 129).2.2.1 (am_md 129).2.2.2.1 (am_md 129).2.2.2.2.1 ∈ am_TB := List.mem_filter.mpr ⟨List.mem_of_getElem? (i := 616) rfl, rfl⟩
set_option maxRecDepth 100000 in
theorem am_cw130 : Cond.code (am_md 130).2.1 (am_md 130).2.2.1 (am_md 130).2.2.2.1 (am_md 130).2.2.2.2.1 ∈ am_TB := List.mem_filter.mpr ⟨List.mem_of_getElem? (i := 620) rfl, rfl⟩
set_option maxRecDepth 100000 in
theorem am_cw131 : Cond.code (am_md 131).2.1 (am_md 131).2.2.1 (am_md 131).2.2.2.1 (am_md 131).2.2.2.2.1 ∈ am_TB := List.mem_filter.mpr ⟨List.mem_of_getElem? (i := 630) rfl, rfl⟩
set_option maxRecDepth 100000 in
theorem am_cw132 : Cond.code (am_md 132).2.1 (am_md 132).2.2.1 (am_md 132).2.2.2.1 (am_md 132).2.2.2.2.1 ∈ am_TB := List.mem_filter.mpr ⟨List.mem_of_getElem? (i := 128) rfl, rfl⟩
set_option maxRecDepth 100000 in
theorem am_cw133 : Cond.code (am_md 133).2.1 (am_md 133).2.2.1 (am_md 133).2.2.2.1 (am_md 133).2.2.2.2.1 ∈ am_TB := List.mem_filter.mpr ⟨List.mem_of_getElem? (i := 552) rfl, rfl⟩
set_option maxRecDepth 100000 in
theorem am_cw134 : Cond.code (am_md 134).2.1 (am_md 134).2.2.1 (am_md 134).2.2.2.1 (am_md 134).2.2.2.2.1 ∈ am_TB := List.mem_filter.mpr ⟨List.mem_of_getElem? (i := 556) rfl, rfl⟩
set_option maxRecDepth 100000 in
theorem am_cw135 : Cond.code (am_md 135).2.1 (am_md 135).2.2.1 (am_md 135).2.2.2.1 (am_md 135).2.2.2.2.1 ∈ am_TB := List.mem_filter.mpr ⟨List.mem_of_getElem? (i := 561) rfl, rfl⟩
set_option maxRecDepth 100000 in
theorem am_cw136 : Cond.code (am_md 136).2.1 (am_md 136).2.2.1 (am_md 136).2.2.2.1 (am_md 136).2.2.2.2.1 ∈ am_TB := List.mem_filter.mpr ⟨List.mem_of_getElem? (i := 203) rfl, rfl⟩
set_option maxRecDepth 100000 in
theorem am_cw137 : Cond.code (am_md 137).2.1 (am_md 137).2.2.1 (am_md 137).2.2.2.1 (am_md 137).2.2.2.2.1 ∈ am_TB := List.mem_filter.mpr ⟨List.mem_of_getElem? (i := 644) rfl, rfl⟩
set_option maxRecDepth 100000 in
theorem am_cw138 : Cond.code (am_md 138).2.1 (am_md 138).2.2.1 (am_md 138).2.2.2.1 (am_md 138).2.2.2.2.1 ∈ am_TB := List.mem_filter.mpr ⟨List.mem_of_getElem? (i := 661) rfl, rfl⟩
set_option maxRecDepth 100000 in
theorem am_cw139 : Cond.code (am_md 139).2.1 (am_md 139).2.2.1 (am_md 139).2.2.2.1 (am_md 139).2.2.2.2.1 ∈ am_TB := List.mem_filter.mpr ⟨List.mem_of_getElem? (i := 648) rfl, rfl⟩
set_option maxRecDepth 100000 in
theorem am_cw140 : Cond.code (am_md 140).2.1 (am_md 140).2.2.1 (am_md 140).2.2.2.1 (am_md 140).2.2.2.2.1 ∈ am_TB := List.mem_filter.mpr ⟨List.mem_of_getElem? (i := 672) rfl, rfl⟩
set_option maxRecDepth 100000 in
theorem am_cw141 : Cond.code (am_md 141).2.1 (am_md 141).2.2.1 (am_md 141).2.2.2.1 (am_md 141).2.2.2.2.1 ∈ am_TB := List.mem_filter.mpr ⟨List.mem_of_getElem? (i := 668) rfl, rfl⟩
set_option maxRecDepth 100000 in
theorem am_cw142 : Cond.code (am_md 142).2.1 (am_md 142).2.2.1 (am_md 142).2.2.2.1 (am_md 142).2.2.2.2.1 ∈ am_TB := List.mem_filter.mpr ⟨List.mem_of_getElem? (i := 676) rfl, rfl⟩
set_option maxRecDepth 100000 in
theorem am_cw143 : Cond.code (am_md 143).2.1 (am_md 143).2.2.1 (am_md 143).2.2.2.1 (am_md 143).2.2.2.2.1 ∈ am_TB := List.mem_filter.mpr ⟨List.mem_of_getElem? (i := 657) rfl, rfl⟩
set_option maxRecDepth 100000 in
theorem am_cw144 : Cond.code (am_md 144).2.1 (am_md 144).2.2.1 (am_md 144).2.2.2.1 (am_md 144).2.2.2.2.1 ∈ am_TB := List.mem_filter.mpr ⟨List.mem_of_getElem? (i := 682) rfl, rfl⟩
set_option maxRecDepth 100000 in
theorem am_cw145 : Cond.code (am_md 145).2.1 (am_md 145).2.2.1 (am_md 145).2.2.2.1 (am_md 145).2.2.2.2.1 ∈ am_TB := List.mem_filter.mpr ⟨List.mem_of_getElem? (i := 689) rfl, rfl⟩
set_option maxRecDepth 100000 in
theorem am_cw150 : Cond.code (am_md 150).2.1 (am_md 150).2.2.1 (am_md 150).2.2.2.1 (am_md 150).2.2.2.2.1 ∈ am_TB := List.mem_filter.mpr ⟨List.mem_of_getElem? (i := 685) rfl, rfl⟩
def am_pl : List Nat := [0, 1, 2, 3, 4, 5, 6, 7, 8, 9, 10, 11, 12, 13, 14, 15, 16, 17, 18, 19, 20, 21, 22, 23, 24, 25, 26, 27, 28, 29, 30, 31, 32, 33, 34, 35, 36, 37, 38, 39, 40, 41, 42, 43, 44, 45, 46, 47, 48, 49, 50, 51, 52, 53, 54, 55, 56, 57, 58, 59, 60, 61, 62, 63, 64, 65, 66, 67, 68, 69, 70, 71, 72, 73, 74, 75, 76, 77, 78, 79, 80, 81, 82, 83, 84, 85, 86, 87, 88, 89, 90, 91, 92, 93, 94, 95, 96, 97, 98, 99, 100, 101, 102, 103, 104, 105, 106, 107, 108, 109, 110, 111, 112, 113, 114, 115, 116, 117, 118, 119, 120, 121, 122, 123, 124, 125, 126, 127, 128, 129, 130, 131, 132, 133, 134, 135, 136, 137, 138, 139, 140, 141, 142, 143, 144, 145, 150]
theorem am_cwL : ∀ j ∈ am_pl, Cond.code (am_md j).2.1 (am_md j).2.2.1 (am_md j).2.2.2.1 (am_md j).2.2.2.2.1 ∈ am_TB := List.forall_mem_cons.mpr ⟨am_cw0, List.forall_mem_cons.mpr ⟨am_cw1, List.forall_mem_cons.mpr ⟨am_cw2, List.forall_mem_cons.mpr ⟨am_cw3, List.forall_mem_cons.mpr ⟨am_cw4, List.forall_mem_cons.mpr ⟨am_cw5, List.forall_mem_cons.mpr ⟨am_cw6, List.forall_mem_cons.mpr ⟨am_cw7, List.forall_mem_cons.mpr ⟨am_cw8, List.forall_mem_cons.mpr ⟨am_cw9, List.forall_mem_cons.mpr ⟨am_cw10, List.forall_mem_cons.mpr ⟨am_cw11, List.forall_mem_cons.mpr ⟨am_cw12, List.forall_mem_cons.mpr ⟨am_cw13, List.forall_mem_cons.mpr ⟨am_cw14, List.forall_mem_cons.mpr ⟨am_cw15, List.forall_mem_cons.mpr ⟨am_cw16, List.forall_mem_cons.mpr ⟨am_cw17, List.forall_mem_cons.mpr ⟨am_cw18, List.forall_mem_cons.mpr ⟨am_cw19, List.forall_mem_cons.mpr ⟨am_cw20, List.forall_mem_cons.mpr ⟨am_cw21, List.forall_mem_cons.mpr ⟨am_cw22, List.forall_mem_cons.mpr ⟨am_cw23, List.forall_mem_cons.mpr ⟨am_cw24, List.forall_mem_cons.mpr ⟨am_cw25, List.forall_mem_cons.mpr ⟨am_cw26, List.forall_mem_cons.mpr ⟨am_cw27, List.forall_mem_cons.mpr ⟨am_cw28, List.forall_mem_cons.mpr ⟨am_cw29, List.forall_mem_cons.mpr ⟨am_cw30, List.forall_mem_cons.mpr ⟨am_cw31, List.forall_mem_cons.mpr ⟨am_cw32, List.forall_mem_cons.mpr ⟨am_cw33, List.forall_mem_cons.mpr ⟨am_cw34, List.forall_mem_cons.mpr ⟨am_cw35, List.forall_mem_cons.mpr ⟨am_cw36, List.forall_mem_cons.mpr ⟨am_cw37, List.forall_mem_cons.mpr ⟨am_cw38, List.forall_mem_cons.mpr ⟨am_cw39, List.forall_mem_cons.mpr ⟨am_cw40, List.forall_mem_cons.mpr ⟨am_cw41, List.forall_mem_cons.mpr ⟨am_cw42, List.forall_mem_cons.mpr ⟨am_cw43, List.forall_mem_cons.mpr ⟨am_cw44, List.forall_mem_cons.mpr ⟨am_cw45, List.forall_mem_cons.mpr ⟨am_cw46, List.forall_mem_cons.mpr ⟨am_cw47, List.forall_mem_cons.mpr ⟨am_cw48, List.forall_mem_cons.mpr ⟨am_cw49, List.forall_mem_cons.mpr ⟨am_cw50, List.forall_mem_cons.mpr ⟨am_cw51, List.forall_mem_cons.mpr ⟨am_cw52, List.forall_mem_cons.mpr ⟨am_cw53, List.forall_mem_cons.mpr ⟨am_cw54, List.forall_mem_cons.mpr ⟨am_cw55, List.forall_mem_cons.mpr ⟨am_cw56, List.forall_mem_cons.mpr ⟨am_cw57, List.forall_mem_cons.mpr ⟨am_cw58, List.forall_mem_cons.mpr ⟨am_cw59, List.forall_mem_cons.mpr ⟨am_cw60, List.forall_mem_cons.mpr ⟨am_cw61, List.forall_mem_cons.mpr ⟨am_cw62, List.forall_mem_cons.mpr ⟨am_cw63, List.forall_mem_cons.mpr ⟨am_cw64, List.forall_mem_cons.mpr ⟨am_cw65, List.forall_mem_cons.mpr ⟨am_cw66, List.forall_mem_cons.mpr ⟨am_cw67, List.forall_mem_cons.mpr ⟨am_cw68, List.forall_mem_cons.mpr ⟨am_cw69, List.forall_mem_cons.mpr ⟨am_cw70, List.forall_mem_cons.mpr ⟨am_cw71, List.forall_mem_cons.mpr ⟨am_cw72, List.forall_mem_cons.mpr ⟨am_cw73, List.forall_mem_cons.mpr ⟨am_cw74, List.forall_mem_cons.mpr ⟨am_cw75, List.forall_mem_cons.mpr ⟨am_cw76, List.forall_mem_cons.mpr ⟨am_cw77, List.forall_mem_cons.mpr ⟨am_cw78, List.forall_mem_cons.mpr ⟨am_cw79, List.forall_mem_cons.mpr ⟨am_cw80, List.forall_mem_cons.mpr ⟨am_cw81, List.forall_mem_cons.mpr ⟨am_cw82, List.forall_mem_cons.mpr ⟨am_cw83, List.forall_mem_cons.mpr ⟨am_cw84, List.forall_mem_cons.mpr ⟨am_cw85, List.forall_mem_cons.mpr ⟨am_cw86, List.forall_mem_cons.mpr ⟨am_cw87, List.forall_mem_cons.mpr ⟨am_cw88, List.forall_mem_cons.mpr ⟨am_cw89, List.forall_mem_cons.mpr ⟨am_cw90, List.forall_mem_cons.mpr ⟨am_cw91, List.forall_mem_cons.mpr ⟨am_cw92, List.forall_mem_cons.mpr ⟨am_cw93, List.forall_mem_cons.mpr ⟨am_cw94, List.forall_mem_cons.mpr ⟨am_cw95, List.forall_mem_cons.mpr ⟨am_cw96, List.forall_mem_cons.mpr ⟨am_cw97, List.forall_mem_cons.mpr ⟨am_cw98, List.forall_mem_cons.mpr ⟨am_cw99, List.forall_mem_cons.mpr ⟨am_cw100, List.forall_mem_cons.mpr ⟨am_cw101, List.forall_mem_cons.mpr ⟨am_cw102, List.forall_mem_cons.mpr ⟨am_cw103, List.forall_mem_cons.mpr ⟨am_cw104, List.forall_mem_cons.mpr ⟨am_cw105, List.forall_mem_cons.mpr ⟨am_cw106, List.forall_mem_cons.mpr ⟨am_cw107, List.forall_mem_cons.mpr ⟨am_cw108, List.forall_mem_cons.mpr ⟨am_cw109, List.forall_mem_cons.mpr ⟨am_cw110, List.forall_mem_cons.mpr ⟨am_cw111, List.forall_mem_cons.mpr ⟨am_cw112, List.forall_mem_cons.mpr ⟨am_cw113, List.forall_mem_cons.mpr ⟨am_cw114, List.forall_mem_cons.mpr ⟨am_cw115, List.forall_mem_cons.mpr ⟨am_cw116, List.forall_mem_cons.mpr ⟨am_cw117, List.forall_mem_cons.mpr ⟨am_cw118, List.forall_mem_cons.mpr ⟨am_cw119, List.forall_mem_cons.mpr ⟨am_cw120, List.forall_mem_cons.mpr ⟨am_cw121, List.forall_mem_cons.mpr ⟨am_cw122, List.forall_mem_cons.mpr ⟨am_cw123, List.forall_mem_cons.mpr ⟨am_cw124, List.forall_mem_cons.mpr ⟨am_cw125, List.forall_mem_cons.mpr ⟨am_cw126, List.forall_mem_cons.mpr ⟨am_cw127, List.forall_mem_cons.mpr ⟨am_cw128, List.forall_mem_cons.mpr ⟨am_cw129, List.forall_mem_cons.mpr ⟨am_cw130, List.forall_mem_cons.mpr ⟨am_cw131, List.forall_mem_cons.mpr ⟨am_cw132, List.forall_mem_cons.mpr ⟨am_cw133, List.forall_mem_cons.mpr ⟨am_cw134, List.forall_mem_cons.mpr ⟨am_cw135, List.forall_mem_cons.mpr ⟨am_cw136, List.forall_mem_cons.mpr ⟨am_cw137, List.forall_mem_cons.mpr ⟨am_cw138, List.forall_mem_cons.mpr ⟨am_cw139, List.forall_mem_cons.mpr ⟨am_cw140, List.forall_mem_cons.mpr ⟨am_cw141, List.forall_mem_cons.mpr ⟨am_cw142, List.forall_mem_cons.mpr ⟨am_cw143, List.forall_mem_cons.mpr ⟨am_cw144, List.forall_mem_cons.mpr ⟨am_cw145, List.forall_mem_cons.mpr ⟨am_cw150, fun _ h => absurd h List.not_mem_nil⟩⟩⟩⟩⟩⟩⟩⟩⟩⟩⟩⟩⟩⟩⟩⟩⟩⟩⟩⟩⟩⟩⟩⟩⟩⟩⟩⟩⟩⟩⟩⟩⟩⟩⟩⟩⟩⟩⟩⟩⟩⟩⟩⟩⟩⟩⟩⟩⟩⟩⟩⟩⟩⟩⟩⟩⟩⟩⟩⟩⟩⟩⟩⟩⟩⟩⟩⟩⟩⟩⟩⟩⟩⟩⟩⟩⟩⟩⟩⟩⟩⟩⟩⟩⟩⟩⟩⟩⟩⟩⟩⟩⟩⟩⟩⟩⟩⟩⟩⟩⟩⟩⟩⟩⟩⟩⟩⟩⟩⟩⟩⟩⟩⟩⟩⟩⟩⟩⟩⟩⟩⟩⟩⟩⟩⟩⟩⟩⟩⟩⟩⟩⟩⟩⟩⟩⟩⟩⟩⟩⟩⟩⟩⟩⟩⟩⟩
