-- PRINTED by wip/whole/gen.py: every entry of every method is as the tables have it
def ph_0 : List (List Nat) := [[], [64, 65, 66], [67], [], [0, 70, 0], [], [], [102], [], [], [104, 105, 0], [250], [], [149], [], [151, 152, 0], [251], [], [171], [], [], [173, 174, 0], [252], [], [], [233], [253], [], [], [], [], [], [], [253], [], [233], [], [0, 237, 3], [], [], [], [], [], [101], [255], []]
theorem ch_0 : (pc_0.zip ph_0).all (fun q => ck_isT q.1.2.1 q.1.2.2.2.1 || ck_ent 0 q) = true := by decide +kernel
def ph_1 : List (List Nat) := [[], [72, 65, 66], [], [], [101], [73], [], [], [101], [76], [], [], [101], [81], []]
theorem ch_1 : (pc_1.zip ph_1).all (fun q => ck_isT q.1.2.1 q.1.2.2.2.1 || ck_ent 1 q) = true := by decide +kernel
def ph_2 : List (List Nat) := [[], [107, 65, 66], [], [], [147], [112], [], [], [148], [116], [], [], [101], [118], [], [], [147], [120], [], [108], [], [0, 70, 1], [122], [], [], [148], [123], [], [], [147], [124], [], [], [147], [125], [], [], [110], []]
theorem ch_2 : (pc_2.zip ph_2).all (fun q => ck_isT q.1.2.1 q.1.2.2.2.1 || ck_ent 2 q) = true := by decide +kernel
def ph_3 : List (List Nat) := [[], [154, 65, 66], [], [], [155], [160], [], [], [], [], [], [], [160], [], [155], [], [157], [], [0, 70, 2], [159, 105, 0], [], [], [], []]
theorem ch_3 : (pc_3.zip ph_3).all (fun q => ck_isT q.1.2.1 q.1.2.2.2.1 || ck_ent 3 q) = true := by decide +kernel
def ph_4 : List (List Nat) := [[], [176, 65, 66], [], [], [148], [202], [], [], [148], [204], [], [], [101], [205], [], [], [101], [209], [], [], [199], [], [177], [], [], [179, 180, 0], [200], []]
theorem ch_4 : (pc_4.zip ph_4).all (fun q => ck_isT q.1.2.1 q.1.2.2.2.1 || ck_ent 4 q) = true := by decide +kernel
def ph_5 : List (List Nat) := [[], [182, 65, 66], [], [], [101], [184], [], [], [101], [186], [], [], [148], [187], [], [], [183], []]
theorem ch_5 : (pc_5.zip ph_5).all (fun q => ck_isT q.1.2.1 q.1.2.2.2.1 || ck_ent 5 q) = true := by decide +kernel
def ph_6 : List (List Nat) := [[], [239, 65, 66], [], [240], [], [0, 70, 4], [242], [], [240], [], [0, 70, 4], [243], []]
theorem ch_6 : (pc_6.zip ph_6).all (fun q => ck_isT q.1.2.1 q.1.2.2.2.1 || ck_ent 6 q) = true := by decide +kernel
def ph_7 : List (List Nat) := [[], [251], [], [250], [279, 280, 281], [], [252], [295, 296, 297], [], [250], [], [252], [203], [338, 339, 340], [], [], [256], [], [], [], [], [252], [208], [], [], [], [252], [206], [], [], [342, 344, 7], [], [], [], [], [257], [], [256], [], [257], [], [256], []]
theorem ch_7 : (pc_7.zip ph_7).all (fun q => ck_isT q.1.2.1 q.1.2.2.2.1 || ck_ent 7 q) = true := by decide +kernel
def ph_8 : List (List Nat) := [[], [160], [], [161], [], [], [283, 284, 285], [], [], [161], [], [], [], [], [161], [], [162], [], [], [], [], [162], [], [], [162], []]
theorem ch_8 : (pc_8.zip ph_8).all (fun q => ck_isT q.1.2.1 q.1.2.2.2.1 || ck_ent 8 q) = true := by decide +kernel
def ph_9 : List (List Nat) := [[], [110], [91], [], [], [], [115], [115], [], [112], [], [], [112], [], [], [115], [287, 289, 288, 56], [], [110], [], [110], [290, 291, 292], [], [116], [], [], [116], [], [], [287, 289, 288, 56], [], [118], [], [], [118], [], [], [287, 289, 288, 56], [], [120], [], [], [120], [], [], [287, 289, 288, 56], [], [122], [], [122], [290, 291, 292], [], [123], [], [], [123], [], [], [287, 289, 288, 56], [], [124], [], [], [124], [], [], [287, 289, 288, 56], [], [125], [], [], [125], [], [], [287, 289, 288, 56], []]
theorem ch_9 : (pc_9.zip ph_9).all (fun q => ck_isT q.1.2.1 q.1.2.2.2.1 || ck_ent 9 q) = true := by decide +kernel
def ph_10 : List (List Nat) := [[], [], [90], [90], [], [73], [], [], [73], [], [], [90], [294, 289, 288, 56], [], [76], [], [], [76], [], [], [90], [294, 289, 288, 56], [], [81], [], [], [81], [], [], [90], [294, 289, 288, 56], []]
theorem ch_10 : (pc_10.zip ph_10).all (fun q => ck_isT q.1.2.1 q.1.2.2.2.1 || ck_ent 10 q) = true := by decide +kernel
def ph_11 : List (List Nat) := [[], [213], [], [], [], [], [], [], [199], [88], [], [], [202], [], [], [], [], [], [], [299, 301, 0], [], [312, 314, 3], [], [211], [], [], [299, 301, 0], [], [], [213], []]
theorem ch_11 : (pc_11.zip ph_11).all (fun q => ck_isT q.1.2.1 q.1.2.2.2.1 || ck_ent 11 q) = true := by decide +kernel
def ph_12 : List (List Nat) := [[], [202], [], [], [204], [], [], [199], [88], [303, 289, 288, 56], [], [], [207], [], [], [], [], [], [], [199], [88], [], [], [], [199], [88], [], [], [204], [], [], [], [], [], [], [], [304, 306, 1], [], [], [], [], [], [], [204], [], [], [], [], [205], [], [207], [], [], [], [], [207], [], [], [207], [], [], []]
theorem ch_12 : (pc_12.zip ph_12).all (fun q => ck_isT q.1.2.1 q.1.2.2.2.1 || ck_ent 12 q) = true := by decide +kernel
def ph_13 : List (List Nat) := [[], [], [], [], [199], [88], [], [], [204], [], [], [], [], [], [199], [78], [], [], [308, 310, 2], [], [], [], [199], [83], [], [], [308, 310, 2], [], [], [], [], [], [], []]
theorem ch_13 : (pc_13.zip ph_13).all (fun q => ck_isT q.1.2.1 q.1.2.2.2.1 || ck_ent 13 q) = true := by decide +kernel
def ph_14 : List (List Nat) := [[], [], [], [204], [], [], [], [], [], [], []]
theorem ch_14 : (pc_14.zip ph_14).all (fun q => ck_isT q.1.2.1 q.1.2.2.2.1 || ck_ent 14 q) = true := by decide +kernel
def ph_15 : List (List Nat) := [[], [], [211], [], [], [], [], [199], [88], [], [], [204], [], [], [], [], [200], [], [], [316, 317, 318], [], [], [202], [], [], [], [], [], [], [], [], [], [202], [], [], [], [], [211], [], [], [], [211], [], [], [], [211], [], [209], [], [], [], [], [], [], [], [], [], [211], [], [], [209], [], [], [], [209], [], [], [], [], [], [211], [], [], [328, 330, 6], [], [], [], []]
theorem ch_15 : (pc_15.zip ph_15).all (fun q => ck_isT q.1.2.1 q.1.2.2.2.1 || ck_ent 15 q) = true := by decide +kernel
def ph_16 : List (List Nat) := [[], [], [320, 322, 4], [], [], [], [], [185], [], [], [184], [], [], [], [], [183], [77], [], [], [], [], [], [183], [82], [], [], [], [], [], [186], [], [], [], [], [], [], [], [], []]
theorem ch_16 : (pc_16.zip ph_16).all (fun q => ck_isT q.1.2.1 q.1.2.2.2.1 || ck_ent 16 q) = true := by decide +kernel
def ph_17 : List (List Nat) := [[], [], [], [], [183], [86], [], [], [186], [], [], [], [], [], [], [], [185], [], [], [], [324, 326, 5], [], [], [], [], [185], [], [], [], [], [], [184], [], [], [], [], [], [183], [77], [], [], [], [186], [], [], [], [], [324, 326, 5], [], [], [183], [82], [], [], [], [186], [], [], [], [], [324, 326, 5], [], [], []]
theorem ch_17 : (pc_17.zip ph_17).all (fun q => ck_isT q.1.2.1 q.1.2.2.2.1 || ck_ent 17 q) = true := by decide +kernel
def ph_18 : List (List Nat) := [[], [], [], [186], [], [], [], [], [], [186], [], [], [], [], [184], [], [185], [], [], [], [], [185], [], [], [185], []]
theorem ch_18 : (pc_18.zip ph_18).all (fun q => ck_isT q.1.2.1 q.1.2.2.2.1 || ck_ent 18 q) = true := by decide +kernel
def ph_19 : List (List Nat) := [[], [199], [78], [], [], [], [199], [83], [], [], [332, 333, 57, 334], [], [], [199], [78], [], [], [], [199], [83], [], [], [335, 336, 57, 337], [], [], [], [], [200], [], [], [209], [], [], [316, 317, 318], [], [], [], [], [], []]
theorem ch_19 : (pc_19.zip ph_19).all (fun q => ck_isT q.1.2.1 q.1.2.2.2.1 || ck_ent 19 q) = true := by decide +kernel
def ph_20 : List (List Nat) := [[], [], [], [], [110], [91], [], [], [], [], [], [], [118], [], [], [], [], [], []]
theorem ch_20 : (pc_20.zip ph_20).all (fun q => ck_isT q.1.2.1 q.1.2.2.2.1 || ck_ent 20 q) = true := by decide +kernel
def ph_21 : List (List Nat) := [[], [250], [], [346, 347, 348], [], [], [250], [119], [], [], [], [], [], [250], [], [354, 355, 356], [], [], [250], [], [366, 367, 368], [], [255], [], [256], [], [], [], [], [256], [], [], [256], []]
theorem ch_21 : (pc_21.zip ph_21).all (fun q => ck_isT q.1.2.1 q.1.2.2.2.1 || ck_ent 21 q) = true := by decide +kernel
def ph_22 : List (List Nat) := [[], [], [110], [79], [], [], [350, 352, 8], [], [], [], [110], [84], [], [], [350, 352, 8], [], [], [], [], []]
theorem ch_22 : (pc_22.zip ph_22).all (fun q => ck_isT q.1.2.1 q.1.2.2.2.1 || ck_ent 22 q) = true := by decide +kernel
def ph_23 : List (List Nat) := [[], [], [], [118], [], [], [], [], [], [], []]
theorem ch_23 : (pc_23.zip ph_23).all (fun q => ck_isT q.1.2.1 q.1.2.2.2.1 || ck_ent 23 q) = true := by decide +kernel
def ph_24 : List (List Nat) := [[], [118], [], [], [], [], [118], [], [], [], [], [], [], [], [116], [], [], [], [123], [], [], [], [], [110], [], [], [122], [358, 359, 360], [], [], [], [110], [79], [], [], [362, 364, 9], [], [124], [], [], [], [], [], [], [110], [84], [], [], [362, 364, 9], [], [125], [], [], [], [], [], [], [], []]
theorem ch_24 : (pc_24.zip ph_24).all (fun q => ck_isT q.1.2.1 q.1.2.2.2.1 || ck_ent 24 q) = true := by decide +kernel
def ph_25 : List (List Nat) := [[], [73], [], [], [], [73], [], [], [], [], [76], [], [], [], [76], [], [], [], [], [81], [], [], [], [81], [], [], [], [], [], [], []]
theorem ch_25 : (pc_25.zip ph_25).all (fun q => ck_isT q.1.2.1 q.1.2.2.2.1 || ck_ent 25 q) = true := by decide +kernel
def ph_26 : List (List Nat) := [[], [], [], [112], [], [], [], [], [], [], [120], [], [], []]
theorem ch_26 : (pc_26.zip ph_26).all (fun q => ck_isT q.1.2.1 q.1.2.2.2.1 || ck_ent 26 q) = true := by decide +kernel
def ph_27 : List (List Nat) := [[], [110], [74], [], [], [], [], [], [110], [79], [], [], [362, 364, 9], [], [], [], [110], [84], [], [], [362, 364, 9], [], [], [122], [], [], [110], [370, 371, 372], [], [123], [], [], [116], [], [], [], [], [124], [], [], [], [], [125], [], [], [], [], [116], [], [], [], [], [], [], [], [], [], [], [], [118], [], [], [], [], [], [118], [], [], [], [], [120], [], [], [], [], [378, 379, 44], [], []]
theorem ch_27 : (pc_27.zip ph_27).all (fun q => ck_isT q.1.2.1 q.1.2.2.2.1 || ck_ent 27 q) = true := by decide +kernel
def ph_28 : List (List Nat) := [[], [], [], [73], [], [], [], [76], [], [], [], [81], [], [], [374, 375, 376], [], []]
theorem ch_28 : (pc_28.zip ph_28).all (fun q => ck_isT q.1.2.1 q.1.2.2.2.1 || ck_ent 28 q) = true := by decide +kernel
def ph_29 : List (List Nat) := [[], [73], [], [], [], [], [], [76], [], [], [], [], [], [81], [], [], [], [], [], [], [], [], [], [73], [], [], [], [], [76], [], [], [], [], [81], [], [], [], [], []]
theorem ch_29 : (pc_29.zip ph_29).all (fun q => ck_isT q.1.2.1 q.1.2.2.2.1 || ck_ent 29 q) = true := by decide +kernel
def ph_30 : List (List Nat) := [[], [], [], [], [], [], [], [], [], [], [], [], [], [], [], [], [], [], [], [], [], [], [], [], [], [], [381, 382, 57, 383], [], [], [], [], [], [], [], [], []]
theorem ch_30 : (pc_30.zip ph_30).all (fun q => ck_isT q.1.2.1 q.1.2.2.2.1 || ck_ent 30 q) = true := by decide +kernel
def ph_31 : List (List Nat) := [[], [251], [163], [], [], [], [], [251], [], [250], [388, 389, 390], [], [252], [392, 393, 394], [], [], [256], [], []]
theorem ch_31 : (pc_31.zip ph_31).all (fun q => ck_isT q.1.2.1 q.1.2.2.2.1 || ck_ent 31 q) = true := by decide +kernel
def ph_32 : List (List Nat) := [[], [], [161], [], [], [], [], [], [], [161], [], [], [162], [], [], [162], [], [], [160], [], [161], [], [283, 284, 285], []]
theorem ch_32 : (pc_32.zip ph_32).all (fun q => ck_isT q.1.2.1 q.1.2.2.2.1 || ck_ent 32 q) = true := by decide +kernel
def ph_33 : List (List Nat) := [[], [], [213], []]
theorem ch_33 : (pc_33.zip ph_33).all (fun q => ck_isT q.1.2.1 q.1.2.2.2.1 || ck_ent 33 q) = true := by decide +kernel
def ph_34 : List (List Nat) := [[], [252], [295, 296, 297], [], [252], [212], []]
theorem ch_34 : (pc_34.zip ph_34).all (fun q => ck_isT q.1.2.1 q.1.2.2.2.1 || ck_ent 34 q) = true := by decide +kernel
def ph_35 : List (List Nat) := [[], [], [], [250], [114], [], [], [250], [111], [87], [], [], [254], [], [], [251], [163], [], [], [256], [], [], [257], [], [], [250], [], [404, 405, 406], [], [], [250], [], [404, 405, 406], [], [], [250], [], [404, 405, 406], [], [], [250], [], [404, 405, 406], [], [], []]
theorem ch_35 : (pc_35.zip ph_35).all (fun q => ck_isT q.1.2.1 q.1.2.2.2.1 || ck_ent 35 q) = true := by decide +kernel
def ph_36 : List (List Nat) := [[], [], [], [], [], [], [110], [91], [], [], [118], [], [], [], [], [], [], [], [], []]
theorem ch_36 : (pc_36.zip ph_36).all (fun q => ck_isT q.1.2.1 q.1.2.2.2.1 || ck_ent 36 q) = true := by decide +kernel
def ph_37 : List (List Nat) := [[], [], [], [], [412, 413, 414], [], [], [], [], [], [], [], []]
theorem ch_37 : (pc_37.zip ph_37).all (fun q => ck_isT q.1.2.1 q.1.2.2.2.1 || ck_ent 37 q) = true := by decide +kernel
def ph_38 : List (List Nat) := [[], [250], [114], [], [], [], [], [251], [485, 486, 487], [], [250], [], [489, 490, 491], []]
theorem ch_38 : (pc_38.zip ph_38).all (fun q => ck_isT q.1.2.1 q.1.2.2.2.1 || ck_ent 38 q) = true := by decide +kernel
def ph_39 : List (List Nat) := [[], [], [162], []]
theorem ch_39 : (pc_39.zip ph_39).all (fun q => ck_isT q.1.2.1 q.1.2.2.2.1 || ck_ent 39 q) = true := by decide +kernel
def ph_40 : List (List Nat) := [[], [112], [], [115], [], [], [], [], [115], [], [], [115], [], [115], [], [], []]
theorem ch_40 : (pc_40.zip ph_40).all (fun q => ck_isT q.1.2.1 q.1.2.2.2.1 || ck_ent 40 q) = true := by decide +kernel
def ph_41 : List (List Nat) := [[], [], [], [], [], [], [497, 498, 499], [], [], [], [], [], [], [], [], [], [], []]
theorem ch_41 : (pc_41.zip ph_41).all (fun q => ck_isT q.1.2.1 q.1.2.2.2.1 || ck_ent 41 q) = true := by decide +kernel
def ph_42 : List (List Nat) := [[], [250], [111], [87], [], [], [250], [], [], [], [], [], [], [501, 502, 503], [], [], [], [], [], [], [], [251], [485, 486, 487], [], [252], [392, 393, 394], [], [250], [], [], [], [526, 527, 528], [], []]
theorem ch_42 : (pc_42.zip ph_42).all (fun q => ck_isT q.1.2.1 q.1.2.2.2.1 || ck_ent 42 q) = true := by decide +kernel
def ph_43 : List (List Nat) := [[], [], [], [], [], [], [], [], [505, 507, 11], [], [], [], [], [505, 507, 11], [], [], [], [], []]
theorem ch_43 : (pc_43.zip ph_43).all (fun q => ck_isT q.1.2.1 q.1.2.2.2.1 || ck_ent 43 q) = true := by decide +kernel
def ph_44 : List (List Nat) := [[], [], [], [], [], [], [115], [], [], [], [], [], [], [], [], [], [], [], []]
theorem ch_44 : (pc_44.zip ph_44).all (fun q => ck_isT q.1.2.1 q.1.2.2.2.1 || ck_ent 44 q) = true := by decide +kernel
def ph_45 : List (List Nat) := [[], [110], [91], [], [], [110], [], [], [], [91], [], [110], [], [], [], [], [530, 375, 376], [], [], [122], [], [], [], [91], [], [118], [], [], [], []]
theorem ch_45 : (pc_45.zip ph_45).all (fun q => ck_isT q.1.2.1 q.1.2.2.2.1 || ck_ent 45 q) = true := by decide +kernel
def ph_46 : List (List Nat) := [[], [], [], [], [], [535, 536, 537], [], [], [], [], [], [], []]
theorem ch_46 : (pc_46.zip ph_46).all (fun q => ck_isT q.1.2.1 q.1.2.2.2.1 || ck_ent 46 q) = true := by decide +kernel
def ph_47 : List (List Nat) := [[], [], [], [], [250], [114], [], [], [], [251], [], [250], [279, 280, 281], [], [250], [113], [], [], [], [], [250], [113], [], [], [], [], []]
theorem ch_47 : (pc_47.zip ph_47).all (fun q => ck_isT q.1.2.1 q.1.2.2.2.1 || ck_ent 47 q) = true := by decide +kernel
def ph_48 : List (List Nat) := [[], [], [], [], [], [], [], [558, 559, 560], [], [], [], [], [], [], [], [], [], [], [], [], [], []]
theorem ch_48 : (pc_48.zip ph_48).all (fun q => ck_isT q.1.2.1 q.1.2.2.2.1 || ck_ent 48 q) = true := by decide +kernel
def ph_49 : List (List Nat) := [[], [], [562, 564, 12], [], [250], [], [], [], [], [250], [111], [87], [501, 502, 503], [], [], [], [251], [], [250], [279, 280, 281], [], [252], [392, 393, 394], [], [250], [111], [], [], [], [], [568, 375, 376], []]
theorem ch_49 : (pc_49.zip ph_49).all (fun q => ck_isT q.1.2.1 q.1.2.2.2.1 || ck_ent 49 q) = true := by decide +kernel
def ph_50 : List (List Nat) := [[], [], [], [], [250], [111], [87], [], [], []]
theorem ch_50 : (pc_50.zip ph_50).all (fun q => ck_isT q.1.2.1 q.1.2.2.2.1 || ck_ent 50 q) = true := by decide +kernel
def ph_51 : List (List Nat) := [[], [], [], [], [], [572, 573, 574], [], [], [], [], [], [], [], [], [], [], []]
theorem ch_51 : (pc_51.zip ph_51).all (fun q => ck_isT q.1.2.1 q.1.2.2.2.1 || ck_ent 51 q) = true := by decide +kernel
def ph_52 : List (List Nat) := [[], [], [562, 564, 12], [], [251], [], [250], [279, 280, 281], [], [250], [117], [], [], [], [], [250], [117], [], [], [], [], []]
theorem ch_52 : (pc_52.zip ph_52).all (fun q => ck_isT q.1.2.1 q.1.2.2.2.1 || ck_ent 52 q) = true := by decide +kernel
def ph_53 : List (List Nat) := [[], [], [], [], [580, 581, 582], [], [], [], [], [], [], [], [], [], []]
theorem ch_53 : (pc_53.zip ph_53).all (fun q => ck_isT q.1.2.1 q.1.2.2.2.1 || ck_ent 53 q) = true := by decide +kernel
def ph_54 : List (List Nat) := [[], [], [562, 564, 12], [], [250], [119], [], [], [], [], [], [250], [121], [], [], []]
theorem ch_54 : (pc_54.zip ph_54).all (fun q => ck_isT q.1.2.1 q.1.2.2.2.1 || ck_ent 54 q) = true := by decide +kernel
def ph_55 : List (List Nat) := [[], [], [], [], [603, 604, 605], [], [], [], [], [], [], [], []]
theorem ch_55 : (pc_55.zip ph_55).all (fun q => ck_isT q.1.2.1 q.1.2.2.2.1 || ck_ent 55 q) = true := by decide +kernel
def ph_56 : List (List Nat) := [[], [], [562, 564, 12], [], [250], [119], [], [], []]
theorem ch_56 : (pc_56.zip ph_56).all (fun q => ck_isT q.1.2.1 q.1.2.2.2.1 || ck_ent 56 q) = true := by decide +kernel
def ph_57 : List (List Nat) := [[], [], [], [], [610, 611, 612], [], [], [], [], [], [], [], []]
theorem ch_57 : (pc_57.zip ph_57).all (fun q => ck_isT q.1.2.1 q.1.2.2.2.1 || ck_ent 57 q) = true := by decide +kernel
def ph_58 : List (List Nat) := [[], [], [], [], [256], [], [], [], [255], [], [], []]
theorem ch_58 : (pc_58.zip ph_58).all (fun q => ck_isT q.1.2.1 q.1.2.2.2.1 || ck_ent 58 q) = true := by decide +kernel
def ph_59 : List (List Nat) := [[], [], [], [], [], [618, 619, 620], [], [], [], [], [], [], [], []]
theorem ch_59 : (pc_59.zip ph_59).all (fun q => ck_isT q.1.2.1 q.1.2.2.2.1 || ck_ent 59 q) = true := by decide +kernel
def ph_60 : List (List Nat) := [[], [], [562, 564, 12], [], [], [], [250], [111], [75], [], [], [], [], [250], [111], [80], [], [], [], [], [250], [111], [85], [], [], [], []]
theorem ch_60 : (pc_60.zip ph_60).all (fun q => ck_isT q.1.2.1 q.1.2.2.2.1 || ck_ent 60 q) = true := by decide +kernel
def ph_61 : List (List Nat) := [[], [], [], [626, 627, 628], [], [], [], [], [], [], [], []]
theorem ch_61 : (pc_61.zip ph_61).all (fun q => ck_isT q.1.2.1 q.1.2.2.2.1 || ck_ent 61 q) = true := by decide +kernel
def ph_62 : List (List Nat) := [[], [254], [], [], [], [], [251], [485, 486, 487], [], [253], [], [254], [], [], [250], [111], [631, 632, 633], [], [], [254], [], [], [254], [], [254], [], [], []]
theorem ch_62 : (pc_62.zip ph_62).all (fun q => ck_isT q.1.2.1 q.1.2.2.2.1 || ck_ent 62 q) = true := by decide +kernel
def ph_63 : List (List Nat) := [[], [242], [], [635, 291, 292], [], [243], [], [635, 291, 292], []]
theorem ch_63 : (pc_63.zip ph_63).all (fun q => ck_isT q.1.2.1 q.1.2.2.2.1 || ck_ent 63 q) = true := by decide +kernel
def ph_64 : List (List Nat) := [[], [], [], [], [], [], [], [], [639, 640, 641], [], [], [], [], [], [], [], [], [], [], [], [], [], []]
theorem ch_64 : (pc_64.zip ph_64).all (fun q => ck_isT q.1.2.1 q.1.2.2.2.1 || ck_ent 64 q) = true := by decide +kernel
def ph_65 : List (List Nat) := [[], [], [643, 645, 13], [], [253], [], [], [244], [], [], [], [], [], [87], [], [], [], [250], [], [], [], [], [87], [501, 502, 503], [], [], [], [], [], [], [], [568, 375, 376], []]
theorem ch_65 : (pc_65.zip ph_65).all (fun q => ck_isT q.1.2.1 q.1.2.2.2.1 || ck_ent 65 q) = true := by decide +kernel
def ph_66 : List (List Nat) := [[], [], [], [], [254], [], [], []]
theorem ch_66 : (pc_66.zip ph_66).all (fun q => ck_isT q.1.2.1 q.1.2.2.2.1 || ck_ent 66 q) = true := by decide +kernel
def ph_67 : List (List Nat) := [[], [], [], [], [653, 654, 655], [], [], [], [], [], [], [], []]
theorem ch_67 : (pc_67.zip ph_67).all (fun q => ck_isT q.1.2.1 q.1.2.2.2.1 || ck_ent 67 q) = true := by decide +kernel
def ph_68 : List (List Nat) := [[], [], [643, 645, 13], [], [253], [], [], [], [], [], [250], [111], [657, 658, 659], [], [], [], [], [251], [], [250], [279, 280, 281], [], [252], [392, 393, 394], [], [], [250], [111], [666, 667, 668], [], [], [250], [111], [631, 632, 633], [], []]
theorem ch_68 : (pc_68.zip ph_68).all (fun q => ck_isT q.1.2.1 q.1.2.2.2.1 || ck_ent 68 q) = true := by decide +kernel
def ph_69 : List (List Nat) := [[], [], [], [], [], [], [243], [89], [], [], [], [661, 663, 14], [], [], [], [], [242], [665, 359, 360], [], [], [], [], [243], [665, 359, 360], [], [], [], [], [], []]
theorem ch_69 : (pc_69.zip ph_69).all (fun q => ck_isT q.1.2.1 q.1.2.2.2.1 || ck_ent 69 q) = true := by decide +kernel
def ph_70 : List (List Nat) := [[], [243], [], [], [242], [665, 359, 360], [], [], [], [], []]
theorem ch_70 : (pc_70.zip ph_70).all (fun q => ck_isT q.1.2.1 q.1.2.2.2.1 || ck_ent 70 q) = true := by decide +kernel
def ph_71 : List (List Nat) := [[], [], [], [], [243], [89], [], [], [], [661, 663, 14], [], [], [], [], [243], [670, 371, 372], [], [], []]
theorem ch_71 : (pc_71.zip ph_71).all (fun q => ck_isT q.1.2.1 q.1.2.2.2.1 || ck_ent 71 q) = true := by decide +kernel
def ph_72 : List (List Nat) := [[], [], [], [], [674, 675, 676], [], [], [], [], [], [], [], []]
theorem ch_72 : (pc_72.zip ph_72).all (fun q => ck_isT q.1.2.1 q.1.2.2.2.1 || ck_ent 72 q) = true := by decide +kernel
def ph_73 : List (List Nat) := [[], [], [643, 645, 13], [], [253], [], [], [678, 679, 680], []]
theorem ch_73 : (pc_73.zip ph_73).all (fun q => ck_isT q.1.2.1 q.1.2.2.2.1 || ck_ent 73 q) = true := by decide +kernel
def ph_74 : List (List Nat) := [[], [], [], [], [], [], [243], [89], [], [], [], [661, 663, 14], [], [], [], [], [], []]
theorem ch_74 : (pc_74.zip ph_74).all (fun q => ck_isT q.1.2.1 q.1.2.2.2.1 || ck_ent 74 q) = true := by decide +kernel
def ph_75 : List (List Nat) := [[], [], [], [], [], [685, 686, 687], [], [], [], [], [], [], [], []]
theorem ch_75 : (pc_75.zip ph_75).all (fun q => ck_isT q.1.2.1 q.1.2.2.2.1 || ck_ent 75 q) = true := by decide +kernel
def ph_76 : List (List Nat) := [[], [], [562, 564, 12], [], [252], [201], [], [], [], [250], [114], [689, 690, 691], [], [], [], [], [], [], []]
theorem ch_76 : (pc_76.zip ph_76).all (fun q => ck_isT q.1.2.1 q.1.2.2.2.1 || ck_ent 76 q) = true := by decide +kernel
def ph_77 : List (List Nat) := [[], [], [], [693, 695, 15], [], [], [], [], [], [], [], [], [187], [], [], [], [], [], [], [], [], [], [], [], [], []]
theorem ch_77 : (pc_77.zip ph_77).all (fun q => ck_isT q.1.2.1 q.1.2.2.2.1 || ck_ent 77 q) = true := by decide +kernel
def ph_78 : List (List Nat) := [[], [], [], [], [], [], [187], [], [], [], [], [], [], [], [320, 322, 4], [], [], [], [], [185], [], [], [], [183], [77], [], [184], [], [], [], [697, 699, 16], [], [], [183], [82], [], [184], [], [], [], [697, 699, 16], [], [], []]
theorem ch_78 : (pc_78.zip ph_78).all (fun q => ck_isT q.1.2.1 q.1.2.2.2.1 || ck_ent 78 q) = true := by decide +kernel
def ph_79 : List (List Nat) := [[], [], [], [187], [], [], [], [], [], []]
theorem ch_79 : (pc_79.zip ph_79).all (fun q => ck_isT q.1.2.1 q.1.2.2.2.1 || ck_ent 79 q) = true := by decide +kernel
def ph_80 : List (List Nat) := [[], [], [], [], [705, 706, 707], [], [], [], [], [], [], [], []]
theorem ch_80 : (pc_80.zip ph_80).all (fun q => ck_isT q.1.2.1 q.1.2.2.2.1 || ck_ent 80 q) = true := by decide +kernel
def ph_81 : List (List Nat) := [[], [252], [295, 296, 297], [], [], [], [], [252], [212], [], [], [], [252], [210], [], [], []]
theorem ch_81 : (pc_81.zip ph_81).all (fun q => ck_isT q.1.2.1 q.1.2.2.2.1 || ck_ent 81 q) = true := by decide +kernel
