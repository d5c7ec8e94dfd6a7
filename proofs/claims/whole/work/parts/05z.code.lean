set_option maxRecDepth 100000 in
theorem am_cw_0 : lw_tbl[(am_info 0).2.2.2.1 / 10000]? = some (Cond.code (am_info 0).1 (am_info 0).2.1 (am_meth 0).2.2.1 (am_info 0).2.2.1) := rfl
set_option maxRecDepth 100000 in
theorem am_cw_1 : lw_tbl[(am_info 1).2.2.2.1 / 10000]? = some (Cond.code (am_info 1).1 (am_info 1).2.1 (am_meth 1).2.2.1 (am_info 1).2.2.1) := rfl
set_option maxRecDepth 100000 in
theorem am_cw_2 : lw_tbl[(am_info 2).2.2.2.1 / 10000]? = some (Cond.code (am_info 2).1 (am_info 2).2.1 (am_meth 2).2.2.1 (am_info 2).2.2.1) := rfl
set_option maxRecDepth 100000 in
theorem am_cw_3 : lw_tbl[(am_info 3).2.2.2.1 / 10000]? = some (Cond.code (am_info 3).1 (am_info 3).2.1 (am_meth 3).2.2.1 (am_info 3).2.2.1) := rfl
set_option maxRecDepth 100000 in
theorem am_cw_4 : lw_tbl[(am_info 4).2.2.2.1 / 10000]? = some (Cond.code (am_info 4).1 (am_info 4).2.1 (am_meth 4).2.2.1 (am_info 4).2.2.1) := rfl
set_option maxRecDepth 100000 in
theorem am_cw_5 : lw_tbl[(am_info 5).2.2.2.1 / 10000]? = some (Cond.code (am_info 5).1 (am_info 5).2.1 (am_meth 5).2.2.1 (am_info 5).2.2.1) := rfl
set_option maxRecDepth 100000 in
theorem am_cw_6 : lw_tbl[(am_info 6).2.2.2.1 / 10000]? = some (Cond.code (am_info 6).1 (am_info 6).2.1 (am_meth 6).2.2.1 (am_info 6).2.2.1) := rfl
set_option maxRecDepth 100000 in
theorem am_cw_7 : lw_tbl[(am_info 7).2.2.2.1 / 10000]? = some (Cond.code (am_info 7).1 (am_info 7).2.1 (am_meth 7).2.2.1 (am_info 7).2.2.1) := rfl
set_option maxRecDepth 100000 in
theorem am_cw_8 : lw_tbl[(am_info 8).2.2.2.1 / 10000]? = some (Cond.code (am_info 8).1 (am_info 8).2.1 (am_meth 8).2.2.1 (am_info 8).2.2.1) := rfl
set_option maxRecDepth 100000 in
theorem am_cw_9 : lw_tbl[(am_info 9).2.2.2.1 / 10000]? = some (Cond.code (am_info 9).1 (am_info 9).2.1 (am_meth 9).2.2.1 (am_info 9).2.2.1) := rfl
set_option maxRecDepth 100000 in
theorem am_cw_10 : lw_tbl[(am_info 10).2.2.2.1 / 10000]? = some (Cond.code (am_info 10).1 (am_info 10).2.1 (am_meth 10).2.2.1 (am_info 10).2.2.1) := rfl
set_option maxRecDepth 100000 in
theorem am_cw_11 : lw_tbl[(am_info 11).2.2.2.1 / 10000]? = some (Cond.code (am_info 11).1 (am_info 11).2.1 (am_meth 11).2.2.1 (am_info 11).2.2.1) := rfl
set_option maxRecDepth 100000 in
theorem am_cw_12 : lw_tbl[(am_info 12).2.2.2.1 / 10000]? = some (Cond.code (am_info 12).1 (am_info 12).2.1 (am_meth 12).2.2.1 (am_info 12).2.2.1) := rfl
set_option maxRecDepth 100000 in
theorem am_cw_13 : lw_tbl[(am_info 13).2.2.2.1 / 10000]? = some (Cond.code (am_info 13).1 (am_info 13).2.1 (am_meth 13).2.2.1 (am_info 13).2.2.1) := rfl
set_option maxRecDepth 100000 in
theorem am_cw_14 : lw_tbl[(am_info 14).2.2.2.1 / 10000]? = some (Cond.code (am_info 14).1 (am_info 14).2.1 (am_meth 14).2.2.1 (am_info 14).2.2.1) := rfl
set_option maxRecDepth 100000 in
theorem am_cw_15 : lw_tbl[(am_info 15).2.2.2.1 / 10000]? = some (Cond.code (am_info 15).1 (am_info 15).2.1 (am_meth 15).2.2.1 (am_info 15).2.2.1) := rfl
set_option maxRecDepth 100000 in
theorem am_cw_16 : lw_tbl[(am_info 16).2.2.2.1 / 10000]? = some (Cond.code (am_info 16).1 (am_info 16).2.1 (am_meth 16).2.2.1 (am_info 16).2.2.1) := rfl
set_option maxRecDepth 100000 in
theorem am_cw_17 : lw_tbl[(am_info 17).2.2.2.1 / 10000]? = some (Cond.code (am_info 17).1 (am_info 17).2.1 (am_meth 17).2.2.1 (am_info 17).2.2.1) := rfl
set_option maxRecDepth 100000 in
theorem am_cw_18 : lw_tbl[(am_info 18).2.2.2.1 / 10000]? = some (Cond.code (am_info 18).1 (am_info 18).2.1 (am_meth 18).2.2.1 (am_info 18).2.2.1) := rfl
set_option maxRecDepth 100000 in
theorem am_cw_19 : lw_tbl[(am_info 19).2.2.2.1 / 10000]? = some (Cond.code (am_info 19).1 (am_info 19).2.1 (am_meth 19).2.2.1 (am_info 19).2.2.1) := rfl
set_option maxRecDepth 100000 in
theorem am_cw_20 : lw_tbl[(am_info 20).2.2.2.1 / 10000]? = some (Cond.code (am_info 20).1 (am_info 20).2.1 (am_meth 20).2.2.1 (am_info 20).2.2.1) := rfl
set_option maxRecDepth 100000 in
theorem am_cw_21 : lw_tbl[(am_info 21).2.2.2.1 / 10000]? = some (Cond.code (am_info 21).1 (am_info 21).2.1 (am_meth 21).2.2.1 (am_info 21).2.2.1) := rfl
set_option maxRecDepth 100000 in
theorem am_cw_22 : lw_tbl[(am_info 22).2.2.2.1 / 10000]? = some (Cond.code (am_info 22).1 (am_info 22).2.1 (am_meth 22).2.2.1 (am_info 22).2.2.1) := rfl
set_option maxRecDepth 100000 in
theorem am_cw_23 : lw_tbl[(am_info 23).2.2.2.1 / 10000]? = some (Cond.code (am_info 23).1 (am_info 23).2.1 (am_meth 23).2.2.1 (am_info 23).2.2.1) := rfl
set_option maxRecDepth 100000 in
theorem am_cw_24 : lw_tbl[(am_info 24).2.2.2.1 / 10000]? = some (Cond.code (am_info 24).1 (am_info 24).2.1 (am_meth 24).2.2.1 (am_info 24).2.2.1) := rfl
set_option maxRecDepth 100000 in
theorem am_cw_25 : lw_tbl[(am_info 25).2.2.2.1 / 10000]? = some (Cond.code (am_info 25).1 (am_info 25).2.1 (am_meth 25).2.2.1 (am_info 25).2.2.1) := rfl
set_option maxRecDepth 100000 in
theorem am_cw_26 : lw_tbl[(am_info 26).2.2.2.1 / 10000]? = some (Cond.code (am_info 26).1 (am_info 26).2.1 (am_meth 26).2.2.1 (am_info 26).2.2.1) := rfl
set_option maxRecDepth 100000 in
theorem am_cw_27 : lw_tbl[(am_info 27).2.2.2.1 / 10000]? = some (Cond.code (am_info 27).1 (am_info 27).2.1 (am_meth 27).2.2.1 (am_info 27).2.2.1) := rfl
set_option maxRecDepth 100000 in
theorem am_cw_28 : lw_tbl[(am_info 28).2.2.2.1 / 10000]? = some (Cond.code (am_info 28).1 (am_info 28).2.1 (am_meth 28).2.2.1 (am_info 28).2.2.1) := rfl
set_option maxRecDepth 100000 in
theorem am_cw_29 : lw_tbl[(am_info 29).2.2.2.1 / 10000]? = some (Cond.code (am_info 29).1 (am_info 29).2.1 (am_meth 29).2.2.1 (am_info 29).2.2.1) := rfl
set_option maxRecDepth 100000 in
theorem am_cw_30 : lw_tbl[(am_info 30).2.2.2.1 / 10000]? = some (Cond.code (am_info 30).1 (am_info 30).2.1 (am_meth 30).2.2.1 (am_info 30).2.2.1) := rfl
set_option maxRecDepth 100000 in
theorem am_cw_31 : lw_tbl[(am_info 31).2.2.2.1 / 10000]? = some (Cond.code (am_info 31).1 (am_info 31).2.1 (am_meth 31).2.2.1 (am_info 31).2.2.1) := rfl
set_option maxRecDepth 100000 in
theorem am_cw_32 : lw_tbl[(am_info 32).2.2.2.1 / 10000]? = some (Cond.code (am_info 32).1 (am_info 32).2.1 (am_meth 32).2.2.1 (am_info 32).2.2.1) := rfl
set_option maxRecDepth 100000 in
theorem am_cw_33 : lw_tbl[(am_info 33).2.2.2.1 / 10000]? = some (Cond.code (am_info 33).1 (am_info 33).2.1 (am_meth 33).2.2.1 (am_info 33).2.2.1) := rfl
set_option maxRecDepth 100000 in
theorem am_cw_34 : lw_tbl[(am_info 34).2.2.2.1 / 10000]? = some (Cond.code (am_info 34).1 (am_info 34).2.1 (am_meth 34).2.2.1 (am_info 34).2.2.1) := rfl
set_option maxRecDepth 100000 in
theorem am_cw_35 : lw_tbl[(am_info 35).2.2.2.1 / 10000]? = some (Cond.code (am_info 35).1 (am_info 35).2.1 (am_meth 35).2.2.1 (am_info 35).2.2.1) := rfl
set_option maxRecDepth 100000 in
theorem am_cw_36 : lw_tbl[(am_info 36).2.2.2.1 / 10000]? = some (Cond.code (am_info 36).1 (am_info 36).2.1 (am_meth 36).2.2.1 (am_info 36).2.2.1) := rfl
set_option maxRecDepth 100000 in
theorem am_cw_37 : lw_tbl[(am_info 37).2.2.2.1 / 10000]? = some (Cond.code (am_info 37).1 (am_info 37).2.1 (am_meth 37).2.2.1 (am_info 37).2.2.1) := rfl
set_option maxRecDepth 100000 in
theorem am_cw_38 : lw_tbl[(am_info 38).2.2.2.1 / 10000]? = some (Cond.code (am_info 38).1 (am_info 38).2.1 (am_meth 38).2.2.1 (am_info 38).2.2.1) := rfl
set_option maxRecDepth 100000 in
theorem am_cw_39 : lw_tbl[(am_info 39).2.2.2.1 / 10000]? = some (Cond.code (am_info 39).1 (am_info 39).2.1 (am_meth 39).2.2.1 (am_info 39).2.2.1) := rfl
set_option maxRecDepth 100000 in
theorem am_cw_40 : lw_tbl[(am_info 40).2.2.2.1 / 10000]? = some (Cond.code (am_info 40).1 (am_info 40).2.1 (am_meth 40).2.2.1 (am_info 40).2.2.1) := rfl
set_option maxRecDepth 100000 in
theorem am_cw_41 : lw_tbl[(am_info 41).2.2.2.1 / 10000]? = some (Cond.code (am_info 41).1 (am_info 41).2.1 (am_meth 41).2.2.1 (am_info 41).2.2.1) := rfl
set_option maxRecDepth 100000 in
theorem am_cw_42 : lw_tbl[(am_info 42).2.2.2.1 / 10000]? = some (Cond.code (am_info 42).1 (am_info 42).2.1 (am_meth 42).2.2.1 (am_info 42).2.2.1) := rfl
set_option maxRecDepth 100000 in
theorem am_cw_43 : lw_tbl[(am_info 43).2.2.2.1 / 10000]? = some (Cond.code (am_info 43).1 (am_info 43).2.1 (am_meth 43).2.2.1 (am_info 43).2.2.1) := rfl
set_option maxRecDepth 100000 in
theorem am_cw_44 : lw_tbl[(am_info 44).2.2.2.1 / 10000]? = some (Cond.code (am_info 44).1 (am_info 44).2.1 (am_meth 44).2.2.1 (am_info 44).2.2.1) := rfl
set_option maxRecDepth 100000 in
theorem am_cw_45 : lw_tbl[(am_info 45).2.2.2.1 / 10000]? = some (Cond.code (am_info 45).1 (am_info 45).2.1 (am_meth 45).2.2.1 (am_info 45).2.2.1) := rfl
set_option maxRecDepth 100000 in
theorem am_cw_46 : lw_tbl[(am_info 46).2.2.2.1 / 10000]? = some (Cond.code (am_info 46).1 (am_info 46).2.1 (am_meth 46).2.2.1 (am_info 46).2.2.1) := rfl
set_option maxRecDepth 100000 in
theorem am_cw_47 : lw_tbl[(am_info 47).2.2.2.1 / 10000]? = some (Cond.code (am_info 47).1 (am_info 47).2.1 (am_meth 47).2.2.1 (am_info 47).2.2.1) := rfl
set_option maxRecDepth 100000 in
theorem am_cw_48 : lw_tbl[(am_info 48).2.2.2.1 / 10000]? = some (Cond.code (am_info 48).1 (am_info 48).2.1 (am_meth 48).2.2.1 (am_info 48).2.2.1) := rfl
set_option maxRecDepth 100000 in
theorem am_cw_49 : lw_tbl[(am_info 49).2.2.2.1 / 10000]? = some (Cond.code (am_info 49).1 (am_info 49).2.1 (am_meth 49).2.2.1 (am_info 49).2.2.1) := rfl
set_option maxRecDepth 100000 in
theorem am_cw_50 : lw_tbl[(am_info 50).2.2.2.1 / 10000]? = some (Cond.code (am_info 50).1 (am_info 50).2.1 (am_meth 50).2.2.1 (am_info 50).2.2.1) := rfl
set_option maxRecDepth 100000 in
theorem am_cw_51 : lw_tbl[(am_info 51).2.2.2.1 / 10000]? = some (Cond.code (am_info 51).1 (am_info 51).2.1 (am_meth 51).2.2.1 (am_info 51).2.2.1) := rfl
set_option maxRecDepth 100000 in
theorem am_cw_52 : lw_tbl[(am_info 52).2.2.2.1 / 10000]? = some (Cond.code (am_info 52).1 (am_info 52).2.1 (am_meth 52).2.2.1 (am_info 52).2.2.1) := rfl
set_option maxRecDepth 100000 in
theorem am_cw_53 : lw_tbl[(am_info 53).2.2.2.1 / 10000]? = some (Cond.code (am_info 53).1 (am_info 53).2.1 (am_meth 53).2.2.1 (am_info 53).2.2.1) := rfl
set_option maxRecDepth 100000 in
theorem am_cw_54 : lw_tbl[(am_info 54).2.2.2.1 / 10000]? = some (Cond.code (am_info 54).1 (am_info 54).2.1 (am_meth 54).2.2.1 (am_info 54).2.2.1) := rfl
set_option maxRecDepth 100000 in
theorem am_cw_55 : lw_tbl[(am_info 55).2.2.2.1 / 10000]? = some (Cond.code (am_info 55).1 (am_info 55).2.1 (am_meth 55).2.2.1 (am_info 55).2.2.1) := rfl
set_option maxRecDepth 100000 in
theorem am_cw_56 : lw_tbl[(am_info 56).2.2.2.1 / 10000]? = some (Cond.code (am_info 56).1 (am_info 56).2.1 (am_meth 56).2.2.1 (am_info 56).2.2.1) := rfl
set_option maxRecDepth 100000 in
theorem am_cw_57 : lw_tbl[(am_info 57).2.2.2.1 / 10000]? = some (Cond.code (am_info 57).1 (am_info 57).2.1 (am_meth 57).2.2.1 (am_info 57).2.2.1) := rfl
set_option maxRecDepth 100000 in
theorem am_cw_58 : lw_tbl[(am_info 58).2.2.2.1 / 10000]? = some (Cond.code (am_info 58).1 (am_info 58).2.1 (am_meth 58).2.2.1 (am_info 58).2.2.1) := rfl
set_option maxRecDepth 100000 in
theorem am_cw_59 : lw_tbl[(am_info 59).2.2.2.1 / 10000]? = some (Cond.code (am_info 59).1 (am_info 59).2.1 (am_meth 59).2.2.1 (am_info 59).2.2.1) := rfl
set_option maxRecDepth 100000 in
theorem am_cw_60 : lw_tbl[(am_info 60).2.2.2.1 / 10000]? = some (Cond.code (am_info 60).1 (am_info 60).2.1 (am_meth 60).2.2.1 (am_info 60).2.2.1) := rfl
set_option maxRecDepth 100000 in
theorem am_cw_61 : lw_tbl[(am_info 61).2.2.2.1 / 10000]? = some (Cond.code (am_info 61).1 (am_info 61).2.1 (am_meth 61).2.2.1 (am_info 61).2.2.1) := rfl
set_option maxRecDepth 100000 in
theorem am_cw_62 : lw_tbl[(am_info 62).2.2.2.1 / 10000]? = some (Cond.code (am_info 62).1 (am_info 62).2.1 (am_meth 62).2.2.1 (am_info 62).2.2.1) := rfl
set_option maxRecDepth 100000 in
theorem am_cw_63 : lw_tbl[(am_info 63).2.2.2.1 / 10000]? = some (Cond.code (am_info 63).1 (am_info 63).2.1 (am_meth 63).2.2.1 (am_info 63).2.2.1) := rfl
set_option maxRecDepth 100000 in
theorem am_cw_64 : lw_tbl[(am_info 64).2.2.2.1 / 10000]? = some (Cond.code (am_info 64).1 (am_info 64).2.1 (am_meth 64).2.2.1 (am_info 64).2.2.1) := rfl
set_option maxRecDepth 100000 in
theorem am_cw_65 : lw_tbl[(am_info 65).2.2.2.1 / 10000]? = some (Cond.code (am_info 65).1 (am_info 65).2.1 (am_meth 65).2.2.1 (am_info 65).2.2.1) := rfl
set_option maxRecDepth 100000 in
theorem am_cw_66 : lw_tbl[(am_info 66).2.2.2.1 / 10000]? = some (Cond.code (am_info 66).1 (am_info 66).2.1 (am_meth 66).2.2.1 (am_info 66).2.2.1) := rfl
set_option maxRecDepth 100000 in
theorem am_cw_67 : lw_tbl[(am_info 67).2.2.2.1 / 10000]? = some (Cond.code (am_info 67).1 (am_info 67).2.1 (am_meth 67).2.2.1 (am_info 67).2.2.1) := rfl
set_option maxRecDepth 100000 in
theorem am_cw_68 : lw_tbl[(am_info 68).2.2.2.1 / 10000]? = some (Cond.code (am_info 68).1 (am_info 68).2.1 (am_meth 68).2.2.1 (am_info 68).2.2.1) := rfl
set_option maxRecDepth 100000 in
theorem am_cw_69 : lw_tbl[(am_info 69).2.2.2.1 / 10000]? = some (Cond.code (am_info 69).1 (am_info 69).2.1 (am_meth 69).2.2.1 (am_info 69).2.2.1) := rfl
set_option maxRecDepth 100000 in
theorem am_cw_70 : lw_tbl[(am_info 70).2.2.2.1 / 10000]? = some (Cond.code (am_info 70).1 (am_info 70).2.1 (am_meth 70).2.2.1 (am_info 70).2.2.1) := rfl
set_option maxRecDepth 100000 in
theorem am_cw_71 : lw_tbl[(am_info 71).2.2.2.1 / 10000]? = some (Cond.code (am_info 71).1 (am_info 71).2.1 (am_meth 71).2.2.1 (am_info 71).2.2.1) := rfl
set_option maxRecDepth 100000 in
theorem am_cw_72 : lw_tbl[(am_info 72).2.2.2.1 / 10000]? = some (Cond.code (am_info 72).1 (am_info 72).2.1 (am_meth 72).2.2.1 (am_info 72).2.2.1) := rfl
set_option maxRecDepth 100000 in
theorem am_cw_73 : lw_tbl[(am_info 73).2.2.2.1 / 10000]? = some (Cond.code (am_info 73).1 (am_info 73).2.1 (am_meth 73).2.2.1 (am_info 73).2.2.1) := rfl
set_option maxRecDepth 100000 in
theorem am_cw_74 : lw_tbl[(am_info 74).2.2.2.1 / 10000]? = some (Cond.code (am_info 74).1 (am_info 74).2.1 (am_meth 74).2.2.1 (am_info 74).2.2.1) := rfl
set_option maxRecDepth 100000 in
theorem am_cw_75 : lw_tbl[(am_info 75).2.2.2.1 / 10000]? = some (Cond.code (am_info 75).1 (am_info 75).2.1 (am_meth 75).2.2.1 (am_info 75).2.2.1) := rfl
set_option maxRecDepth 100000 in
theorem am_cw_76 : lw_tbl[(am_info 76).2.2.2.1 / 10000]? = some (Cond.code (am_info 76).1 (am_info 76).2.1 (am_meth 76).2.2.1 (am_info 76).2.2.1) := rfl
set_option maxRecDepth 100000 in
theorem am_cw_77 : lw_tbl[(am_info 77).2.2.2.1 / 10000]? = some (Cond.code (am_info 77).1 (am_info 77).2.1 (am_meth 77).2.2.1 (am_info 77).2.2.1) := rfl
set_option maxRecDepth 100000 in
theorem am_cw_78 : lw_tbl[(am_info 78).2.2.2.1 / 10000]? = some (Cond.code (am_info 78).1 (am_info 78).2.1 (am_meth 78).2.2.1 (am_info 78).2.2.1) := rfl
set_option maxRecDepth 100000 in
theorem am_cw_79 : lw_tbl[(am_info 79).2.2.2.1 / 10000]? = some (Cond.code (am_info 79).1 (am_info 79).2.1 (am_meth 79).2.2.1 (am_info 79).2.2.1) := rfl
set_option maxRecDepth 100000 in
theorem am_cw_80 : lw_tbl[(am_info 80).2.2.2.1 / 10000]? = some (Cond.code (am_info 80).1 (am_info 80).2.1 (am_meth 80).2.2.1 (am_info 80).2.2.1) := rfl
set_option maxRecDepth 100000 in
theorem am_cw_81 : lw_tbl[(am_info 81).2.2.2.1 / 10000]? = some (Cond.code (am_info 81).1 (am_info 81).2.1 (am_meth 81).2.2.1 (am_info 81).2.2.1) := rfl
set_option maxRecDepth 100000 in
theorem am_cw_82 : lw_tbl[(am_info 82).2.2.2.1 / 10000]? = some (Cond.code (am_info 82).1 (am_info 82).2.1 (am_meth 82).2.2.1 (am_info 82).2.2.1) := rfl
set_option maxRecDepth 100000 in
theorem am_cw_83 : lw_tbl[(am_info 83).2.2.2.1 / 10000]? = some (Cond.code (am_info 83).1 (am_info 83).2.1 (am_meth 83).2.2.1 (am_info 83).2.2.1) := rfl
set_option maxRecDepth 100000 in
theorem am_cw_84 : lw_tbl[(am_info 84).2.2.2.1 / 10000]? = some (Cond.code (am_info 84).1 (am_info 84).2.1 (am_meth 84).2.2.1 (am_info 84).2.2.1) := rfl
set_option maxRecDepth 100000 in
theorem am_cw_85 : lw_tbl[(am_info 85).2.2.2.1 / 10000]? = some (Cond.code (am_info 85).1 (am_info 85).2.1 (am_meth 85).2.2.1 (am_info 85).2.2.1) := rfl
set_option maxRecDepth 100000 in
theorem am_cw_86 : lw_tbl[(am_info 86).2.2.2.1 / 10000]? = some (Cond.code (am_info 86).1 (am_info 86).2.1 (am_meth 86).2.2.1 (am_info 86).2.2.1) := rfl
set_option maxRecDepth 100000 in
theorem am_cw_87 : lw_tbl[(am_info 87).2.2.2.1 / 10000]? = some (Cond.code (am_info 87).1 (am_info 87).2.1 (am_meth 87).2.2.1 (am_info 87).2.2.1) := rfl
set_option maxRecDepth 100000 in
theorem am_cw_88 : lw_tbl[(am_info 88).2.2.2.1 / 10000]? = some (Cond.code (am_info 88).1 (am_info 88).2.1 (am_meth 88).2.2.1 (am_info 88).2.2.1) := rfl
set_option maxRecDepth 100000 in
theorem am_cw_89 : lw_tbl[(am_info 89).2.2.2.1 / 10000]? = some (Cond.code (am_info 89).1 (am_info 89).2.1 (am_meth 89).2.2.1 (am_info 89).2.2.1) := rfl
set_option maxRecDepth 100000 in
theorem am_cw_90 : lw_tbl[(am_info 90).2.2.2.1 / 10000]? = some (Cond.code (am_info 90).1 (am_info 90).2.1 (am_meth 90).2.2.1 (am_info 90).2.2.1) := rfl
set_option maxRecDepth 100000 in
theorem am_cw_91 : lw_tbl[(am_info 91).2.2.2.1 / 10000]? = some (Cond.code (am_info 91).1 (am_info 91).2.1 (am_meth 91).2.2.1 (am_info 91).2.2.1) := rfl
set_option maxRecDepth 100000 in
theorem am_cw_92 : lw_tbl[(am_info 92).2.2.2.1 / 10000]? = some (Cond.code (am_info 92).1 (am_info 92).2.1 (am_meth 92).2.2.1 (am_info 92).2.2.1) := rfl
set_option maxRecDepth 100000 in
theorem am_cw_93 : lw_tbl[(am_info 93).2.2.2.1 / 10000]? = some (Cond.code (am_info 93).1 (am_info 93).2.1 (am_meth 93).2.2.1 (am_info 93).2.2.1) := rfl
set_option maxRecDepth 100000 in
theorem am_cw_94 : lw_tbl[(am_info 94).2.2.2.1 / 10000]? = some (Cond.code (am_info 94).1 (am_info 94).2.1 (am_meth 94).2.2.1 (am_info 94).2.2.1) := rfl
set_option maxRecDepth 100000 in
theorem am_cw_95 : lw_tbl[(am_info 95).2.2.2.1 / 10000]? = some (Cond.code (am_info 95).1 (am_info 95).2.1 (am_meth 95).2.2.1 (am_info 95).2.2.1) := rfl
set_option maxRecDepth 100000 in
theorem am_cw_96 : lw_tbl[(am_info 96).2.2.2.1 / 10000]? = some (Cond.code (am_info 96).1 (am_info 96).2.1 (am_meth 96).2.2.1 (am_info 96).2.2.1) := rfl
set_option maxRecDepth 100000 in
theorem am_cw_97 : lw_tbl[(am_info 97).2.2.2.1 / 10000]? = some (Cond.code (am_info 97).1 (am_info 97).2.1 (am_meth 97).2.2.1 (am_info 97).2.2.1) := rfl
set_option maxRecDepth 100000 in
theorem am_cw_98 : lw_tbl[(am_info 98).2.2.2.1 / 10000]? = some (Cond.code (am_info 98).1 (am_info 98).2.1 (am_meth 98).2.2.1 (am_info 98).2.2.1) := rfl
set_option maxRecDepth 100000 in
theorem am_cw_99 : lw_tbl[(am_info 99).2.2.2.1 / 10000]? = some (Cond.code (am_info 99).1 (am_info 99).2.1 (am_meth 99).2.2.1 (am_info 99).2.2.1) := rfl
set_option maxRecDepth 100000 in
theorem am_cw_100 : lw_tbl[(am_info 100).2.2.2.1 / 10000]? = some (Cond.code (am_info 100).1 (am_info 100).2.1 (am_meth 100).2.2.1 (am_info 100).2.2.1) := rfl
set_option maxRecDepth 100000 in
theorem am_cw_101 : lw_tbl[(am_info 101).2.2.2.1 / 10000]? = some (Cond.code (am_info 101).1 (am_info 101).2.1 (am_meth 101).2.2.1 (am_info 101).2.2.1) := rfl
set_option maxRecDepth 100000 in
theorem am_cw_102 : lw_tbl[(am_info 102).2.2.2.1 / 10000]? = some (Cond.code (am_info 102).1 (am_info 102).2.1 (am_meth 102).2.2.1 (am_info 102).2.2.1) := rfl
set_option maxRecDepth 100000 in
theorem am_cw_103 : lw_tbl[(am_info 103).2.2.2.1 / 10000]? = some (Cond.code (am_info 103).1 (am_info 103).2.1 (am_meth 103).2.2.1 (am_info 103).2.2.1) := rfl
set_option maxRecDepth 100000 in
theorem am_cw_104 : lw_tbl[(am_info 104).2.2.2.1 / 10000]? = some (Cond.code (am_info 104).1 (am_info 104).2.1 (am_meth 104).2.2.1 (am_info 104).2.2.1) := rfl
set_option maxRecDepth 100000 in
theorem am_cw_105 : lw_tbl[(am_info 105).2.2.2.1 / 10000]? = some (Cond.code (am_info 105).1 (am_info 105).2.1 (am_meth 105).2.2.1 (am_info 105).2.2.1) := rfl
set_option maxRecDepth 100000 in
theorem am_cw_106 : lw_tbl[(am_info 106).2.2.2.1 / 10000]? = some (Cond.code (am_info 106).1 (am_info 106).2.1 (am_meth 106).2.2.1 (am_info 106).2.2.1) := rfl
set_option maxRecDepth 100000 in
theorem am_cw_107 : lw_tbl[(am_info 107).2.2.2.1 / 10000]? = some (Cond.code (am_info 107).1 (am_info 107).2.1 (am_meth 107).2.2.1 (am_info 107).2.2.1) := rfl
set_option maxRecDepth 100000 in
theorem am_cw_108 : lw_tbl[(am_info 108).2.2.2.1 / 10000]? = some (Cond.code (am_info 108).1 (am_info 108).2.1 (am_meth 108).2.2.1 (am_info 108).2.2.1) := rfl
set_option maxRecDepth 100000 in
theorem am_cw_109 : lw_tbl[(am_info 109).2.2.2.1 / 10000]? = some (Cond.code (am_info 109).1 (am_info 109).2.1 (am_meth 109).2.2.1 (am_info 109).2.2.1) := rfl
set_option maxRecDepth 100000 in
theorem am_cw_110 : lw_tbl[(am_info 110).2.2.2.1 / 10000]? = some (Cond.code (am_info 110).1 (am_info 110).2.1 (am_meth 110).2.2.1 (am_info 110).2.2.1) := rfl
set_option maxRecDepth 100000 in
theorem am_cw_111 : lw_tbl[(am_info 111).2.2.2.1 / 10000]? = some (Cond.code (am_info 111).1 (am_info 111).2.1 (am_meth 111).2.2.1 (am_info 111).2.2.1) := rfl
set_option maxRecDepth 100000 in
theorem am_cw_112 : lw_tbl[(am_info 112).2.2.2.1 / 10000]? = some (Cond.code (am_info 112).1 (am_info 112).2.1 (am_meth 112).2.2.1 (am_info 112).2.2.1) := rfl
set_option maxRecDepth 100000 in
theorem am_cw_113 : lw_tbl[(am_info 113).2.2.2.1 / 10000]? = some (Cond.code (am_info 113).1 (am_info 113).2.1 (am_meth 113).2.2.1 (am_info 113).2.2.1) := rfl
set_option maxRecDepth 100000 in
theorem am_cw_114 : lw_tbl[(am_info 114).2.2.2.1 / 10000]? = some (Cond.code (am_info 114).1 (am_info 114).2.1 (am_meth 114).2.2.1 (am_info 114).2.2.1) := rfl
set_option maxRecDepth 100000 in
theorem am_cw_115 : lw_tbl[(am_info 115).2.2.2.1 / 10000]? = some (Cond.code (am_info 115).1 (am_info 115).2.1 (am_meth 115).2.2.1 (am_info 115).2.2.1) := rfl
set_option maxRecDepth 100000 in
theorem am_cw_116 : lw_tbl[(am_info 116).2.2.2.1 / 10000]? = some (Cond.code (am_info 116).1 (am_info 116).2.1 (am_meth 116).2.2.1 (am_info 116).2.2.1) := rfl
set_option maxRecDepth 100000 in
theorem am_cw_117 : lw_tbl[(am_info 117).2.2.2.1 / 10000]? = some (Cond.code (am_info 117).1 (am_info 117).2.1 (am_meth 117).2.2.1 (am_info 117).2.2.1) := rfl
set_option maxRecDepth 100000 in
theorem am_cw_118 : lw_tbl[(am_info 118).2.2.2.1 / 10000]? = some (Cond.code (am_info 118).1 (am_info 118).2.1 (am_meth 118).2.2.1 (am_info 118).2.2.1) := rfl
set_option maxRecDepth 100000 in
theorem am_cw_119 : lw_tbl[(am_info 119).2.2.2.1 / 10000]? = some (Cond.code (am_info 119).1 (am_info 119).2.1 (am_meth 119).2.2.1 (am_info 119).2.2.1) := rfl
set_option maxRecDepth 100000 in
theorem am_cw_120 : lw_tbl[(am_info 120).2.2.2.1 / 10000]? = some (Cond.code (am_info 120).1 (am_info 120).2.1 (am_meth 120).2.2.1 (am_info 120).2.2.1) := rfl
set_option maxRecDepth 100000 in
theorem am_cw_121 : lw_tbl[(am_info 121).2.2.2.1 / 10000]? = some (Cond.code (am_info 121).1 (am_info 121).2.1 (am_meth 121).2.2.1 (am_info 121).2.2.1) := rfl
set_option maxRecDepth 100000 in
theorem am_cw_122 : lw_tbl[(am_info 122).2.2.2.1 / 10000]? = some (Cond.code (am_info 122).1 (am_info 122).2.1 (am_meth 122).2.2.1 (am_info 122).2.2.1) := rfl
set_option maxRecDepth 100000 in
theorem am_cw_123 : lw_tbl[(am_info 123).2.2.2.1 / 10000]? = some (Cond.code (am_info 123).1 (am_info 123).2.1 (am_meth 123).2.2.1 (am_info 123).2.2.1) := rfl
set_option maxRecDepth 100000 in
theorem am_cw_124 : lw_tbl[(am_info 124).2.2.2.1 / 10000]? = some (Cond.code (am_info 124).1 (am_info 124).2.1 (am_meth 124).2.2.1 (am_info 124).2.2.1) := rfl
set_option maxRecDepth 100000 in
theorem am_cw_125 : lw_tbl[(am_info 125).2.2.2.1 / 10000]? = some (Cond.code (am_info 125).1 (am_info 125).2.1 (am_meth 125).2.2.1 (am_info 125).2.2.1) := rfl
set_option maxRecDepth 100000 in
theorem am_cw_126 : lw_tbl[(am_info 126).2.2.2.1 / 10000]? = some (Cond.code (am_info 126).1 (am_info 126).2.1 (am_meth 126).2.2.1 (am_info 126).2.2.1) := rfl
set_option maxRecDepth 100000 in
theorem am_cw_127 : lw_tbl[(am_info 127).2.2.2.1 / 10000]? = some (Cond.code (am_info 127).1 (am_info 127).2.1 (am_meth 127).2.2.1 (am_info 127).2.2.1) := rfl
set_option maxRecDepth 100000 in
theorem am_cw_128 : lw_tbl[(am_info 128).2.2.2.1 / 10000]? = some (Cond.code (am_info 128).1 (am_info 128).2.1 (am_meth 128).2.2.1 (am_info 128).2.2.1) := rfl
set_option maxRecDepth 100000 in
theorem am_cw_129 : lw_tbl[(am_info 129).2.2.2.1 / 10000]? = some (Cond.code (am_info 129).1 (am_info 129).2.1 (am_meth 129).2.2.1 (am_info 129).2.2.1) := rfl
set_option maxRecDepth 100000 in
theorem am_cw_130 : lw_tbl[(am_info 130).2.2.2.1 / 10000]? = some (Cond.code (am_info 130).1 (am_info 130).2.1 (am_meth 130).2.2.1 (am_info 130).2.2.1) := rfl
set_option maxRecDepth 100000 in
theorem am_cw_131 : lw_tbl[(am_info 131).2.2.2.1 / 10000]? = some (Cond.code (am_info 131).1 (am_info 131).2.1 (am_meth 131).2.2.1 (am_info 131).2.2.1) := rfl
set_option maxRecDepth 100000 in
theorem am_cw_132 : lw_tbl[(am_info 132).2.2.2.1 / 10000]? = some (Cond.code (am_info 132).1 (am_info 132).2.1 (am_meth 132).2.2.1 (am_info 132).2.2.1) := rfl
set_option maxRecDepth 100000 in
theorem am_cw_133 : lw_tbl[(am_info 133).2.2.2.1 / 10000]? = some (Cond.code (am_info 133).1 (am_info 133).2.1 (am_meth 133).2.2.1 (am_info 133).2.2.1) := rfl
set_option maxRecDepth 100000 in
theorem am_cw_134 : lw_tbl[(am_info 134).2.2.2.1 / 10000]? = some (Cond.code (am_info 134).1 (am_info 134).2.1 (am_meth 134).2.2.1 (am_info 134).2.2.1) := rfl
set_option maxRecDepth 100000 in
theorem am_cw_135 : lw_tbl[(am_info 135).2.2.2.1 / 10000]? = some (Cond.code (am_info 135).1 (am_info 135).2.1 (am_meth 135).2.2.1 (am_info 135).2.2.1) := rfl
set_option maxRecDepth 100000 in
theorem am_cw_136 : lw_tbl[(am_info 136).2.2.2.1 / 10000]? = some (Cond.code (am_info 136).1 (am_info 136).2.1 (am_meth 136).2.2.1 (am_info 136).2.2.1) := rfl
set_option maxRecDepth 100000 in
theorem am_cw_137 : lw_tbl[(am_info 137).2.2.2.1 / 10000]? = some (Cond.code (am_info 137).1 (am_info 137).2.1 (am_meth 137).2.2.1 (am_info 137).2.2.1) := rfl
set_option maxRecDepth 100000 in
theorem am_cw_138 : lw_tbl[(am_info 138).2.2.2.1 / 10000]? = some (Cond.code (am_info 138).1 (am_info 138).2.1 (am_meth 138).2.2.1 (am_info 138).2.2.1) := rfl
set_option maxRecDepth 100000 in
theorem am_cw_139 : lw_tbl[(am_info 139).2.2.2.1 / 10000]? = some (Cond.code (am_info 139).1 (am_info 139).2.1 (am_meth 139).2.2.1 (am_info 139).2.2.1) := rfl
set_option maxRecDepth 100000 in
theorem am_cw_140 : lw_tbl[(am_info 140).2.2.2.1 / 10000]? = some (Cond.code (am_info 140).1 (am_info 140).2.1 (am_meth 140).2.2.1 (am_info 140).2.2.1) := rfl
set_option maxRecDepth 100000 in
theorem am_cw_141 : lw_tbl[(am_info 141).2.2.2.1 / 10000]? = some (Cond.code (am_info 141).1 (am_info 141).2.1 (am_meth 141).2.2.1 (am_info 141).2.2.1) := rfl
set_option maxRecDepth 100000 in
theorem am_cw_142 : lw_tbl[(am_info 142).2.2.2.1 / 10000]? = some (Cond.code (am_info 142).1 (am_info 142).2.1 (am_meth 142).2.2.1 (am_info 142).2.2.1) := rfl
set_option maxRecDepth 100000 in
theorem am_cw_143 : lw_tbl[(am_info 143).2.2.2.1 / 10000]? = some (Cond.code (am_info 143).1 (am_info 143).2.1 (am_meth 143).2.2.1 (am_info 143).2.2.1) := rfl
set_option maxRecDepth 100000 in
theorem am_cw_144 : lw_tbl[(am_info 144).2.2.2.1 / 10000]? = some (Cond.code (am_info 144).1 (am_info 144).2.1 (am_meth 144).2.2.1 (am_info 144).2.2.1) := rfl
set_option maxRecDepth 100000 in
theorem am_cw_145 : lw_tbl[(am_info 145).2.2.2.1 / 10000]? = some (Cond.code (am_info 145).1 (am_info 145).2.1 (am_meth 145).2.2.1 (am_info 145).2.2.1) := rfl
set_option maxRecDepth 100000 in
theorem am_cw_146 : lw_tbl[(am_info 146).2.2.2.1 / 10000]? = some (Cond.code (am_info 146).1 (am_info 146).2.1 (am_meth 146).2.2.1 (am_info 146).2.2.1) := rfl
set_option maxRecDepth 100000 in
theorem am_cw_147 : lw_tbl[(am_info 147).2.2.2.1 / 10000]? = some (Cond.code (am_info 147).1 (am_info 147).2.1 (am_meth 147).2.2.1 (am_info 147).2.2.1) := rfl
set_option maxRecDepth 100000 in
theorem am_cw_148 : lw_tbl[(am_info 148).2.2.2.1 / 10000]? = some (Cond.code (am_info 148).1 (am_info 148).2.1 (am_meth 148).2.2.1 (am_info 148).2.2.1) := rfl
set_option maxRecDepth 100000 in
theorem am_cw_149 : lw_tbl[(am_info 149).2.2.2.1 / 10000]? = some (Cond.code (am_info 149).1 (am_info 149).2.1 (am_meth 149).2.2.1 (am_info 149).2.2.1) := rfl
set_option maxRecDepth 100000 in
theorem am_cw_150 : lw_tbl[(am_info 150).2.2.2.1 / 10000]? = some (Cond.code (am_info 150).1 (am_info 150).2.1 (am_meth 150).2.2.1 (am_info 150).2.2.1) := rfl
set_option maxRecDepth 100000 in
theorem am_cw_151 : lw_tbl[(am_info 151).2.2.2.1 / 10000]? = some (Cond.code (am_info 151).1 (am_info 151).2.1 (am_meth 151).2.2.1 (am_info 151).2.2.1) := rfl
set_option maxRecDepth 100000 in
theorem am_cw_152 : lw_tbl[(am_info 152).2.2.2.1 / 10000]? = some (Cond.code (am_info 152).1 (am_info 152).2.1 (am_meth 152).2.2.1 (am_info 152).2.2.1) := rfl
set_option maxRecDepth 100000 in
theorem am_cw_153 : lw_tbl[(am_info 153).2.2.2.1 / 10000]? = some (Cond.code (am_info 153).1 (am_info 153).2.1 (am_meth 153).2.2.1 (am_info 153).2.2.1) := rfl
set_option maxRecDepth 100000 in
theorem am_cw_154 : lw_tbl[(am_info 154).2.2.2.1 / 10000]? = some (Cond.code (am_info 154).1 (am_info 154).2.1 (am_meth 154).2.2.1 (am_info 154).2.2.1) := rfl
set_option maxRecDepth 100000 in
theorem am_cw_155 : lw_tbl[(am_info 155).2.2.2.1 / 10000]? = some (Cond.code (am_info 155).1 (am_info 155).2.1 (am_meth 155).2.2.1 (am_info 155).2.2.1) := rfl
set_option maxRecDepth 100000 in
theorem am_cw_156 : lw_tbl[(am_info 156).2.2.2.1 / 10000]? = some (Cond.code (am_info 156).1 (am_info 156).2.1 (am_meth 156).2.2.1 (am_info 156).2.2.1) := rfl
set_option maxRecDepth 100000 in
theorem am_cw_157 : lw_tbl[(am_info 157).2.2.2.1 / 10000]? = some (Cond.code (am_info 157).1 (am_info 157).2.1 (am_meth 157).2.2.1 (am_info 157).2.2.1) := rfl
set_option maxRecDepth 100000 in
theorem am_cw_158 : lw_tbl[(am_info 158).2.2.2.1 / 10000]? = some (Cond.code (am_info 158).1 (am_info 158).2.1 (am_meth 158).2.2.1 (am_info 158).2.2.1) := rfl
set_option maxRecDepth 100000 in
theorem am_cw_159 : lw_tbl[(am_info 159).2.2.2.1 / 10000]? = some (Cond.code (am_info 159).1 (am_info 159).2.1 (am_meth 159).2.2.1 (am_info 159).2.2.1) := rfl
set_option maxRecDepth 100000 in
theorem am_cw_160 : lw_tbl[(am_info 160).2.2.2.1 / 10000]? = some (Cond.code (am_info 160).1 (am_info 160).2.1 (am_meth 160).2.2.1 (am_info 160).2.2.1) := rfl
set_option maxRecDepth 100000 in
theorem am_cw_161 : lw_tbl[(am_info 161).2.2.2.1 / 10000]? = some (Cond.code (am_info 161).1 (am_info 161).2.1 (am_meth 161).2.2.1 (am_info 161).2.2.1) := rfl
set_option maxRecDepth 100000 in
theorem am_cw_162 : lw_tbl[(am_info 162).2.2.2.1 / 10000]? = some (Cond.code (am_info 162).1 (am_info 162).2.1 (am_meth 162).2.2.1 (am_info 162).2.2.1) := rfl
set_option maxRecDepth 100000 in
theorem am_cw_163 : lw_tbl[(am_info 163).2.2.2.1 / 10000]? = some (Cond.code (am_info 163).1 (am_info 163).2.1 (am_meth 163).2.2.1 (am_info 163).2.2.1) := rfl
set_option maxRecDepth 100000 in
theorem am_cw_164 : lw_tbl[(am_info 164).2.2.2.1 / 10000]? = some (Cond.code (am_info 164).1 (am_info 164).2.1 (am_meth 164).2.2.1 (am_info 164).2.2.1) := rfl
set_option maxRecDepth 100000 in
theorem am_cw_165 : lw_tbl[(am_info 165).2.2.2.1 / 10000]? = some (Cond.code (am_info 165).1 (am_info 165).2.1 (am_meth 165).2.2.1 (am_info 165).2.2.1) := rfl
set_option maxRecDepth 100000 in
theorem am_cw_166 : lw_tbl[(am_info 166).2.2.2.1 / 10000]? = some (Cond.code (am_info 166).1 (am_info 166).2.1 (am_meth 166).2.2.1 (am_info 166).2.2.1) := rfl
set_option maxRecDepth 100000 in
theorem am_cw_167 : lw_tbl[(am_info 167).2.2.2.1 / 10000]? = some (Cond.code (am_info 167).1 (am_info 167).2.1 (am_meth 167).2.2.1 (am_info 167).2.2.1) := rfl
set_option maxRecDepth 100000 in
theorem am_cw_168 : lw_tbl[(am_info 168).2.2.2.1 / 10000]? = some (Cond.code (am_info 168).1 (am_info 168).2.1 (am_meth 168).2.2.1 (am_info 168).2.2.1) := rfl
set_option maxRecDepth 100000 in
theorem am_cw_169 : lw_tbl[(am_info 169).2.2.2.1 / 10000]? = some (Cond.code (am_info 169).1 (am_info 169).2.1 (am_meth 169).2.2.1 (am_info 169).2.2.1) := rfl
set_option maxRecDepth 100000 in
theorem am_cw_170 : lw_tbl[(am_info 170).2.2.2.1 / 10000]? = some (Cond.code (am_info 170).1 (am_info 170).2.1 (am_meth 170).2.2.1 (am_info 170).2.2.1) := rfl
set_option maxRecDepth 100000 in
theorem am_cw_171 : lw_tbl[(am_info 171).2.2.2.1 / 10000]? = some (Cond.code (am_info 171).1 (am_info 171).2.1 (am_meth 171).2.2.1 (am_info 171).2.2.1) := rfl
set_option maxRecDepth 100000 in
theorem am_cw_172 : lw_tbl[(am_info 172).2.2.2.1 / 10000]? = some (Cond.code (am_info 172).1 (am_info 172).2.1 (am_meth 172).2.2.1 (am_info 172).2.2.1) := rfl
theorem am_cwz : ∀ z : Nat, z < 173 → lw_tbl[(am_info z).2.2.2.1 / 10000]? = some (Cond.code (am_info z).1 (am_info z).2.1 (am_meth z).2.2.1 (am_info z).2.2.1)
  | 0, _ => am_cw_0
  | 1, _ => am_cw_1
  | 2, _ => am_cw_2
  | 3, _ => am_cw_3
  | 4, _ => am_cw_4
  | 5, _ => am_cw_5
  | 6, _ => am_cw_6
  | 7, _ => am_cw_7
  | 8, _ => am_cw_8
  | 9, _ => am_cw_9
  | 10, _ => am_cw_10
  | 11, _ => am_cw_11
  | 12, _ => am_cw_12
  | 13, _ => am_cw_13
  | 14, _ => am_cw_14
  | 15, _ => am_cw_15
  | 16, _ => am_cw_16
  | 17, _ => am_cw_17
  | 18, _ => am_cw_18
  | 19, _ => am_cw_19
  | 20, _ => am_cw_20
  | 21, _ => am_cw_21
  | 22, _ => am_cw_22
  | 23, _ => am_cw_23
  | 24, _ => am_cw_24
  | 25, _ => am_cw_25
  | 26, _ => am_cw_26
  | 27, _ => am_cw_27
  | 28, _ => am_cw_28
  | 29, _ => am_cw_29
  | 30, _ => am_cw_30
  | 31, _ => am_cw_31
  | 32, _ => am_cw_32
  | 33, _ => am_cw_33
  | 34, _ => am_cw_34
  | 35, _ => am_cw_35
  | 36, _ => am_cw_36
  | 37, _ => am_cw_37
  | 38, _ => am_cw_38
  | 39, _ => am_cw_39
  | 40, _ => am_cw_40
  | 41, _ => am_cw_41
  | 42, _ => am_cw_42
  | 43, _ => am_cw_43
  | 44, _ => am_cw_44
  | 45, _ => am_cw_45
  | 46, _ => am_cw_46
  | 47, _ => am_cw_47
  | 48, _ => am_cw_48
  | 49, _ => am_cw_49
  | 50, _ => am_cw_50
  | 51, _ => am_cw_51
  | 52, _ => am_cw_52
  | 53, _ => am_cw_53
  | 54, _ => am_cw_54
  | 55, _ => am_cw_55
  | 56, _ => am_cw_56
  | 57, _ => am_cw_57
  | 58, _ => am_cw_58
  | 59, _ => am_cw_59
  | 60, _ => am_cw_60
  | 61, _ => am_cw_61
  | 62, _ => am_cw_62
  | 63, _ => am_cw_63
  | 64, _ => am_cw_64
  | 65, _ => am_cw_65
  | 66, _ => am_cw_66
  | 67, _ => am_cw_67
  | 68, _ => am_cw_68
  | 69, _ => am_cw_69
  | 70, _ => am_cw_70
  | 71, _ => am_cw_71
  | 72, _ => am_cw_72
  | 73, _ => am_cw_73
  | 74, _ => am_cw_74
  | 75, _ => am_cw_75
  | 76, _ => am_cw_76
  | 77, _ => am_cw_77
  | 78, _ => am_cw_78
  | 79, _ => am_cw_79
  | 80, _ => am_cw_80
  | 81, _ => am_cw_81
  | 82, _ => am_cw_82
  | 83, _ => am_cw_83
  | 84, _ => am_cw_84
  | 85, _ => am_cw_85
  | 86, _ => am_cw_86
  | 87, _ => am_cw_87
  | 88, _ => am_cw_88
  | 89, _ => am_cw_89
  | 90, _ => am_cw_90
  | 91, _ => am_cw_91
  | 92, _ => am_cw_92
  | 93, _ => am_cw_93
  | 94, _ => am_cw_94
  | 95, _ => am_cw_95
  | 96, _ => am_cw_96
  | 97, _ => am_cw_97
  | 98, _ => am_cw_98
  | 99, _ => am_cw_99
  | 100, _ => am_cw_100
  | 101, _ => am_cw_101
  | 102, _ => am_cw_102
  | 103, _ => am_cw_103
  | 104, _ => am_cw_104
  | 105, _ => am_cw_105
  | 106, _ => am_cw_106
  | 107, _ => am_cw_107
  | 108, _ => am_cw_108
  | 109, _ => am_cw_109
  | 110, _ => am_cw_110
  | 111, _ => am_cw_111
  | 112, _ => am_cw_112
  | 113, _ => am_cw_113
  | 114, _ => am_cw_114
  | 115, _ => am_cw_115
  | 116, _ => am_cw_116
  | 117, _ => am_cw_117
  | 118, _ => am_cw_118
  | 119, _ => am_cw_119
  | 120, _ => am_cw_120
  | 121, _ => am_cw_121
  | 122, _ => am_cw_122
  | 123, _ => am_cw_123
  | 124, _ => am_cw_124
  | 125, _ => am_cw_125
  | 126, _ => am_cw_126
  | 127, _ => am_cw_127
  | 128, _ => am_cw_128
  | 129, _ => am_cw_129
  | 130, _ => am_cw_130
  | 131, _ => am_cw_131
  | 132, _ => am_cw_132
  | 133, _ => am_cw_133
  | 134, _ => am_cw_134
  | 135, _ => am_cw_135
  | 136, _ => am_cw_136
  | 137, _ => am_cw_137
  | 138, _ => am_cw_138
  | 139, _ => am_cw_139
  | 140, _ => am_cw_140
  | 141, _ => am_cw_141
  | 142, _ => am_cw_142
  | 143, _ => am_cw_143
  | 144, _ => am_cw_144
  | 145, _ => am_cw_145
  | 146, _ => am_cw_146
  | 147, _ => am_cw_147
  | 148, _ => am_cw_148
  | 149, _ => am_cw_149
  | 150, _ => am_cw_150
  | 151, _ => am_cw_151
  | 152, _ => am_cw_152
  | 153, _ => am_cw_153
  | 154, _ => am_cw_154
  | 155, _ => am_cw_155
  | 156, _ => am_cw_156
  | 157, _ => am_cw_157
  | 158, _ => am_cw_158
  | 159, _ => am_cw_159
  | 160, _ => am_cw_160
  | 161, _ => am_cw_161
  | 162, _ => am_cw_162
  | 163, _ => am_cw_163
  | 164, _ => am_cw_164
  | 165, _ => am_cw_165
  | 166, _ => am_cw_166
  | 167, _ => am_cw_167
  | 168, _ => am_cw_168
  | 169, _ => am_cw_169
  | 170, _ => am_cw_170
  | 171, _ => am_cw_171
  | 172, _ => am_cw_172
  | n + 173, h => absurd h (by omega)
