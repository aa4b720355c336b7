/-! no more than 252 explanations: none holds another, and the sets of ten things fall into 252 chains -/
def chR : List (List Nat) := [[0, 0, 1, 0, 2, 2, 1, 0, 3, 3, 4, 3, 5, 2, 1, 0, 6, 6, 7, 6, 8, 8, 7, 6, 9, 9, 4, 3, 5, 2, 1, 0], [10, 10, 11, 10, 12, 12, 11, 10, 13, 13, 14, 13, 15, 12, 11, 10, 16, 16, 17, 16, 18, 8, 7, 6, 19, 9, 4, 3, 5, 2, 1, 0], [20, 20, 21, 20, 22, 22, 21, 20, 23, 23, 24, 23, 25, 22, 21, 20, 26, 26, 27, 26, 28, 28, 27, 26, 29, 29, 24, 23, 25, 22, 21, 20], [30, 30, 31, 30, 32, 32, 31, 30, 33, 33, 14, 13, 15, 12, 11, 10, 34, 34, 17, 16, 18, 8, 7, 6, 19, 9, 4, 3, 5, 2, 1, 0], [35, 35, 36, 35, 37, 37, 36, 35, 38, 38, 39, 38, 40, 37, 36, 35, 41, 41, 42, 41, 43, 43, 42, 41, 44, 44, 39, 38, 40, 37, 36, 35], [45, 45, 46, 45, 47, 47, 46, 45, 48, 48, 49, 48, 50, 47, 46, 45, 51, 51, 52, 51, 53, 43, 42, 41, 54, 44, 39, 38, 40, 37, 36, 35], [55, 55, 56, 55, 57, 57, 56, 55, 58, 58, 59, 58, 60, 57, 56, 55, 61, 61, 62, 61, 63, 28, 27, 26, 64, 29, 24, 23, 25, 22, 21, 20], [65, 65, 66, 65, 67, 32, 31, 30, 68, 33, 14, 13, 15, 12, 11, 10, 69, 34, 17, 16, 18, 8, 7, 6, 19, 9, 4, 3, 5, 2, 1, 0], [70, 70, 71, 70, 72, 72, 71, 70, 73, 73, 74, 73, 75, 72, 71, 70, 76, 76, 77, 76, 78, 78, 77, 76, 79, 79, 74, 73, 75, 72, 71, 70], [80, 80, 81, 80, 82, 82, 81, 80, 83, 83, 84, 83, 85, 82, 81, 80, 86, 86, 87, 86, 88, 78, 77, 76, 89, 79, 74, 73, 75, 72, 71, 70], [90, 90, 91, 90, 92, 92, 91, 90, 93, 93, 94, 93, 95, 92, 91, 90, 96, 96, 97, 96, 98, 98, 97, 96, 99, 99, 94, 93, 95, 92, 91, 90], [100, 100, 101, 100, 102, 102, 101, 100, 103, 103, 84, 83, 85, 82, 81, 80, 104, 104, 87, 86, 88, 78, 77, 76, 89, 79, 74, 73, 75, 72, 71, 70], [105, 105, 106, 105, 107, 107, 106, 105, 108, 108, 109, 108, 110, 107, 106, 105, 111, 111, 112, 111, 113, 113, 112, 111, 114, 114, 109, 108, 110, 107, 106, 105], [115, 115, 116, 115, 117, 117, 116, 115, 118, 118, 49, 48, 50, 47, 46, 45, 119, 119, 52, 51, 53, 43, 42, 41, 54, 44, 39, 38, 40, 37, 36, 35], [120, 120, 121, 120, 122, 122, 121, 120, 123, 123, 59, 58, 60, 57, 56, 55, 124, 124, 62, 61, 63, 28, 27, 26, 64, 29, 24, 23, 25, 22, 21, 20], [125, 125, 66, 65, 67, 32, 31, 30, 68, 33, 14, 13, 15, 12, 11, 10, 69, 34, 17, 16, 18, 8, 7, 6, 19, 9, 4, 3, 5, 2, 1, 0], [126, 126, 127, 126, 128, 128, 127, 126, 129, 129, 130, 129, 131, 128, 127, 126, 132, 132, 133, 132, 134, 134, 133, 132, 135, 135, 130, 129, 131, 128, 127, 126], [136, 136, 137, 136, 138, 138, 137, 136, 139, 139, 140, 139, 141, 138, 137, 136, 142, 142, 143, 142, 144, 134, 133, 132, 145, 135, 130, 129, 131, 128, 127, 126], [146, 146, 147, 146, 148, 148, 147, 146, 149, 149, 150, 149, 151, 148, 147, 146, 152, 152, 153, 152, 154, 154, 153, 152, 155, 155, 150, 149, 151, 148, 147, 146], [156, 156, 157, 156, 158, 158, 157, 156, 159, 159, 140, 139, 141, 138, 137, 136, 160, 160, 143, 142, 144, 134, 133, 132, 145, 135, 130, 129, 131, 128, 127, 126], [161, 161, 162, 161, 163, 163, 162, 161, 164, 164, 165, 164, 166, 163, 162, 161, 167, 167, 168, 167, 169, 169, 168, 167, 170, 170, 165, 164, 166, 163, 162, 161], [171, 171, 172, 171, 173, 173, 172, 171, 174, 174, 175, 174, 176, 173, 172, 171, 177, 177, 178, 177, 179, 169, 168, 167, 180, 170, 165, 164, 166, 163, 162, 161], [181, 181, 182, 181, 183, 183, 182, 181, 184, 184, 185, 184, 186, 183, 182, 181, 187, 187, 188, 187, 189, 154, 153, 152, 190, 155, 150, 149, 151, 148, 147, 146], [191, 191, 192, 191, 193, 158, 157, 156, 194, 159, 140, 139, 141, 138, 137, 136, 195, 160, 143, 142, 144, 134, 133, 132, 145, 135, 130, 129, 131, 128, 127, 126], [196, 196, 197, 196, 198, 198, 197, 196, 199, 199, 200, 199, 201, 198, 197, 196, 202, 202, 203, 202, 204, 204, 203, 202, 205, 205, 200, 199, 201, 198, 197, 196], [206, 206, 207, 206, 208, 208, 207, 206, 209, 209, 210, 209, 211, 208, 207, 206, 212, 212, 213, 212, 214, 204, 203, 202, 215, 205, 200, 199, 201, 198, 197, 196], [216, 216, 217, 216, 218, 218, 217, 216, 219, 219, 220, 219, 221, 218, 217, 216, 222, 222, 223, 222, 224, 98, 97, 96, 225, 99, 94, 93, 95, 92, 91, 90], [226, 226, 227, 226, 228, 102, 101, 100, 229, 103, 84, 83, 85, 82, 81, 80, 230, 104, 87, 86, 88, 78, 77, 76, 89, 79, 74, 73, 75, 72, 71, 70], [231, 231, 232, 231, 233, 233, 232, 231, 234, 234, 235, 234, 236, 233, 232, 231, 237, 237, 238, 237, 239, 113, 112, 111, 240, 114, 109, 108, 110, 107, 106, 105], [241, 241, 242, 241, 243, 117, 116, 115, 244, 118, 49, 48, 50, 47, 46, 45, 245, 119, 52, 51, 53, 43, 42, 41, 54, 44, 39, 38, 40, 37, 36, 35], [246, 246, 247, 246, 248, 122, 121, 120, 249, 123, 59, 58, 60, 57, 56, 55, 250, 124, 62, 61, 63, 28, 27, 26, 64, 29, 24, 23, 25, 22, 21, 20], [251, 125, 66, 65, 67, 32, 31, 30, 68, 33, 14, 13, 15, 12, 11, 10, 69, 34, 17, 16, 18, 8, 7, 6, 19, 9, 4, 3, 5, 2, 1, 0]]
def chC : List (List Nat) := [[0, 1, 3, 7, 15, 31, 63, 127, 255, 511, 1023], [2, 6, 14, 30, 62, 126, 254, 510, 1022], [4, 5, 13, 29, 61, 125, 253, 509, 1021], [8, 9, 11, 27, 59, 123, 251, 507, 1019], [10, 26, 58, 122, 250, 506, 1018], [12, 28, 60, 124, 252, 508, 1020], [16, 17, 19, 23, 55, 119, 247, 503, 1015], [18, 22, 54, 118, 246, 502, 1014], [20, 21, 53, 117, 245, 501, 1013], [24, 25, 57, 121, 249, 505, 1017], [32, 33, 35, 39, 47, 111, 239, 495, 1007], [34, 38, 46, 110, 238, 494, 1006], [36, 37, 45, 109, 237, 493, 1005], [40, 41, 43, 107, 235, 491, 1003], [42, 106, 234, 490, 1002], [44, 108, 236, 492, 1004], [48, 49, 51, 115, 243, 499, 1011], [50, 114, 242, 498, 1010], [52, 116, 244, 500, 1012], [56, 120, 248, 504, 1016], [64, 65, 67, 71, 79, 95, 223, 479, 991], [66, 70, 78, 94, 222, 478, 990], [68, 69, 77, 93, 221, 477, 989], [72, 73, 75, 91, 219, 475, 987], [74, 90, 218, 474, 986], [76, 92, 220, 476, 988], [80, 81, 83, 87, 215, 471, 983], [82, 86, 214, 470, 982], [84, 85, 213, 469, 981], [88, 89, 217, 473, 985], [96, 97, 99, 103, 231, 487, 999], [98, 102, 230, 486, 998], [100, 101, 229, 485, 997], [104, 105, 233, 489, 1001], [112, 113, 241, 497, 1009], [128, 129, 131, 135, 143, 159, 191, 447, 959], [130, 134, 142, 158, 190, 446, 958], [132, 133, 141, 157, 189, 445, 957], [136, 137, 139, 155, 187, 443, 955], [138, 154, 186, 442, 954], [140, 156, 188, 444, 956], [144, 145, 147, 151, 183, 439, 951], [146, 150, 182, 438, 950], [148, 149, 181, 437, 949], [152, 153, 185, 441, 953], [160, 161, 163, 167, 175, 431, 943], [162, 166, 174, 430, 942], [164, 165, 173, 429, 941], [168, 169, 171, 427, 939], [170, 426, 938], [172, 428, 940], [176, 177, 179, 435, 947], [178, 434, 946], [180, 436, 948], [184, 440, 952], [192, 193, 195, 199, 207, 463, 975], [194, 198, 206, 462, 974], [196, 197, 205, 461, 973], [200, 201, 203, 459, 971], [202, 458, 970], [204, 460, 972], [208, 209, 211, 467, 979], [210, 466, 978], [212, 468, 980], [216, 472, 984], [224, 225, 227, 483, 995], [226, 482, 994], [228, 484, 996], [232, 488, 1000], [240, 496, 1008], [256, 257, 259, 263, 271, 287, 319, 383, 895], [258, 262, 270, 286, 318, 382, 894], [260, 261, 269, 285, 317, 381, 893], [264, 265, 267, 283, 315, 379, 891], [266, 282, 314, 378, 890], [268, 284, 316, 380, 892], [272, 273, 275, 279, 311, 375, 887], [274, 278, 310, 374, 886], [276, 277, 309, 373, 885], [280, 281, 313, 377, 889], [288, 289, 291, 295, 303, 367, 879], [290, 294, 302, 366, 878], [292, 293, 301, 365, 877], [296, 297, 299, 363, 875], [298, 362, 874], [300, 364, 876], [304, 305, 307, 371, 883], [306, 370, 882], [308, 372, 884], [312, 376, 888], [320, 321, 323, 327, 335, 351, 863], [322, 326, 334, 350, 862], [324, 325, 333, 349, 861], [328, 329, 331, 347, 859], [330, 346, 858], [332, 348, 860], [336, 337, 339, 343, 855], [338, 342, 854], [340, 341, 853], [344, 345, 857], [352, 353, 355, 359, 871], [354, 358, 870], [356, 357, 869], [360, 361, 873], [368, 369, 881], [384, 385, 387, 391, 399, 415, 927], [386, 390, 398, 414, 926], [388, 389, 397, 413, 925], [392, 393, 395, 411, 923], [394, 410, 922], [396, 412, 924], [400, 401, 403, 407, 919], [402, 406, 918], [404, 405, 917], [408, 409, 921], [416, 417, 419, 423, 935], [418, 422, 934], [420, 421, 933], [424, 425, 937], [432, 433, 945], [448, 449, 451, 455, 967], [450, 454, 966], [452, 453, 965], [456, 457, 969], [464, 465, 977], [480, 481, 993], [512, 513, 515, 519, 527, 543, 575, 639, 767], [514, 518, 526, 542, 574, 638, 766], [516, 517, 525, 541, 573, 637, 765], [520, 521, 523, 539, 571, 635, 763], [522, 538, 570, 634, 762], [524, 540, 572, 636, 764], [528, 529, 531, 535, 567, 631, 759], [530, 534, 566, 630, 758], [532, 533, 565, 629, 757], [536, 537, 569, 633, 761], [544, 545, 547, 551, 559, 623, 751], [546, 550, 558, 622, 750], [548, 549, 557, 621, 749], [552, 553, 555, 619, 747], [554, 618, 746], [556, 620, 748], [560, 561, 563, 627, 755], [562, 626, 754], [564, 628, 756], [568, 632, 760], [576, 577, 579, 583, 591, 607, 735], [578, 582, 590, 606, 734], [580, 581, 589, 605, 733], [584, 585, 587, 603, 731], [586, 602, 730], [588, 604, 732], [592, 593, 595, 599, 727], [594, 598, 726], [596, 597, 725], [600, 601, 729], [608, 609, 611, 615, 743], [610, 614, 742], [612, 613, 741], [616, 617, 745], [624, 625, 753], [640, 641, 643, 647, 655, 671, 703], [642, 646, 654, 670, 702], [644, 645, 653, 669, 701], [648, 649, 651, 667, 699], [650, 666, 698], [652, 668, 700], [656, 657, 659, 663, 695], [658, 662, 694], [660, 661, 693], [664, 665, 697], [672, 673, 675, 679, 687], [674, 678, 686], [676, 677, 685], [680, 681, 683], [682], [684], [688, 689, 691], [690], [692], [696], [704, 705, 707, 711, 719], [706, 710, 718], [708, 709, 717], [712, 713, 715], [714], [716], [720, 721, 723], [722], [724], [728], [736, 737, 739], [738], [740], [744], [752], [768, 769, 771, 775, 783, 799, 831], [770, 774, 782, 798, 830], [772, 773, 781, 797, 829], [776, 777, 779, 795, 827], [778, 794, 826], [780, 796, 828], [784, 785, 787, 791, 823], [786, 790, 822], [788, 789, 821], [792, 793, 825], [800, 801, 803, 807, 815], [802, 806, 814], [804, 805, 813], [808, 809, 811], [810], [812], [816, 817, 819], [818], [820], [824], [832, 833, 835, 839, 847], [834, 838, 846], [836, 837, 845], [840, 841, 843], [842], [844], [848, 849, 851], [850], [852], [856], [864, 865, 867], [866], [868], [872], [880], [896, 897, 899, 903, 911], [898, 902, 910], [900, 901, 909], [904, 905, 907], [906], [908], [912, 913, 915], [914], [916], [920], [928, 929, 931], [930], [932], [936], [944], [960, 961, 963], [962], [964], [968], [976], [992]]
def chI (x : Nat) : Nat := (chR.getD (x / 32) []).getD (x % 32) 0
theorem ch_lt : (List.range 1024).all (fun x => decide (chI x < 252) && (chC.getD (chI x) []).contains x) = true := by decide +kernel
theorem ch_cmp : chC.all (fun l => l.all (fun x => l.all (fun y => decide (x &&& y = x) || decide (x &&& y = y)))) = true := by decide +kernel
theorem ch_len : chC.length = 252 := by decide +kernel
theorem ch_of {x y : Nat} (hx : x < 1024) (hy : y < 1024) (h : chI x = chI y) : x &&& y = x ∨ x &&& y = y := by
  have h1 := List.all_eq_true.mp ch_lt x (List.mem_range.mpr hx)
  have h2 := List.all_eq_true.mp ch_lt y (List.mem_range.mpr hy)
  rw [Bool.and_eq_true, decide_eq_true_eq, List.contains_iff_mem] at h1 h2
  rw [← h] at h2
  have hm : chC.getD (chI x) [] ∈ chC := by
    have hl : chI x < chC.length := by rw [ch_len]; exact h1.1
    rw [List.getD_eq_getElem?_getD, List.getElem?_eq_getElem hl]
    exact List.getElem_mem hl
  have h3 := List.all_eq_true.mp (List.all_eq_true.mp (List.all_eq_true.mp ch_cmp _ hm) x h1.2) y h2.2
  rw [Bool.or_eq_true, decide_eq_true_eq, decide_eq_true_eq] at h3
  exact h3
theorem ch_252 {x : Nat} (hx : x < 1024) : chI x < 252 := by
  have h1 := List.all_eq_true.mp ch_lt x (List.mem_range.mpr hx)
  rw [Bool.and_eq_true, decide_eq_true_eq] at h1
  exact h1.1
theorem fb_holes : ∀ (m n : Nat) (f : Nat → Nat), (∀ i, i < n → f i < m) → (∀ i j, i < j → j < n → f i ≠ f j) → n ≤ m := by
  intro m
  induction m with
  | zero =>
    intro n f h1 _
    rcases Nat.eq_zero_or_pos n with h | h
    · omega
    · exact absurd (h1 0 h) (Nat.not_lt_zero _)
  | succ m ih =>
    intro n f h1 h2
    by_cases hx : ∃ i, i < n ∧ f i = m
    · obtain ⟨a, ha, hfa⟩ := hx
      have hg := ih (n - 1) (fun i => if i < a then f i else f (i + 1)) (by
        intro i hi
        by_cases q : i < a
        · simp only [if_pos q]
          have b1 := h1 i (by omega)
          have b2 := h2 i a q ha
          omega
        · simp only [if_neg q]
          have b1 := h1 (i + 1) (by omega)
          have b2 := h2 a (i + 1) (by omega) (by omega)
          omega) (by
        intro i j hij hj
        by_cases q : i < a
        · by_cases r : j < a
          · simp only [if_pos q, if_pos r]
            exact h2 i j hij (by omega)
          · simp only [if_pos q, if_neg r]
            exact h2 i (j + 1) (by omega) (by omega)
        · have r : ¬ j < a := by omega
          simp only [if_neg q, if_neg r]
          exact h2 (i + 1) (j + 1) (by omega) (by omega))
      omega
    · have hg := ih n f (fun i hi => by
        have b1 := h1 i hi
        have b2 : f i ≠ m := fun e => hx ⟨i, hi, e⟩
        omega) h2
      omega
theorem ct_mono (p : Nat → Bool) {a b : Nat} (h : a ≤ b) : ct p a ≤ ct p b := by
  induction b with
  | zero => rw [show a = 0 by omega]; exact Nat.le_refl _
  | succ b ih =>
    rcases Nat.lt_or_ge a (b + 1) with q | q
    · exact Nat.le_trans (ih (by omega)) (by rw [ct]; exact Nat.le_add_right _ _)
    · rw [show a = b + 1 by omega]; exact Nat.le_refl _
theorem ct_step {p : Nat → Bool} {i : Nat} (h : p i = true) : ct p (i + 1) = ct p i + 1 := by rw [ct, h]; rfl
theorem ct_kth {p : Nat → Bool} {k : Nat} : ∀ {n : Nat}, k < ct p n → ∃ i, i < n ∧ p i = true ∧ ct p i = k
  | 0, h => absurd h (Nat.not_lt_zero k)
  | n + 1, h => by
    rcases Nat.lt_or_ge k (ct p n) with q | q
    · obtain ⟨i, h1, h2⟩ := ct_kth q
      exact ⟨i, by omega, h2⟩
    · rw [ct] at h
      cases hp : p n
      · rw [hp] at h
        have : (false : Bool).toNat = 0 := rfl
        omega
      · rw [hp] at h
        have : (true : Bool).toNat = 1 := rfl
        exact ⟨n, by omega, hp, by omega⟩
theorem ct_inj {p : Nat → Bool} {i j : Nat} (hi : p i = true) (hj : p j = true) (h : ct p i = ct p j) : i = j := by
  rcases Nat.lt_trichotomy i j with q | q | q
  · have := ct_mono p (show i + 1 ≤ j by omega)
    rw [ct_step hi] at this
    omega
  · exact q
  · have := ct_mono p (show j + 1 ≤ i by omega)
    rw [ct_step hj] at this
    omega
/-- no explanation is in another -/
theorem isE_anti {K : Kn} {S : Nat → Nat} {x y : Nat} (hy : y < 1024) (ex : isE K S x = true) (ey : isE K S y = true) (h : x &&& y = x) : x = y := by
  apply Classical.byContradiction
  intro hne
  have sub : ∀ i, x.testBit i = true → y.testBit i = true := by
    intro i hi
    rw [← h, Nat.testBit_and, Bool.and_eq_true] at hi
    exact hi.2
  have hd : ∃ i, y.testBit i = true ∧ x.testBit i = false := by
    apply Classical.byContradiction
    intro hc
    apply hne
    apply Nat.eq_of_testBit_eq
    intro i
    cases hx : x.testBit i
    · cases hyi : y.testBit i
      · rfl
      · exact absurd ⟨i, hyi, hx⟩ hc
    · rw [sub i hx]
  obtain ⟨d, hyd, hxd⟩ := hd
  have hd10 : d < 10 := bit_lt (show y < 2 ^ 10 from hy) hyd
  have cx : cov K S x = true := by unfold isE at ex; rw [Bool.and_eq_true] at ex; exact ex.1
  have cy : cov K S y = true := by unfold isE at ey; rw [Bool.and_eq_true] at ey; exact ey.1
  have hs : spr K S y = true := by
    refine anyN_true hd10 ?_
    rw [hyd, Bool.true_and, cov_iff]
    refine ⟨fun c hc hb => ?_, fun f hf hS => ?_⟩
    · rw [sub_bit hyd, Bool.and_eq_true] at hb
      exact (cov_iff.mp cy).1 c hc hb.1
    · obtain ⟨c, hc, hxc, hl⟩ := isL_iff.mp ((cov_iff.mp cx).2 f hf hS)
      refine isL_iff.mpr ⟨c, hc, ?_, hl⟩
      have hcd : c ≠ d := fun e => by rw [e, hxd] at hxc; cases hxc
      rw [sub_bit hyd, sub c hxc, decide_eq_true hcd]
      rfl
  unfold isE at ey
  rw [hs] at ey
  simp at ey
theorem nE_le (K : Kn) (S : Nat → Nat) : nE K S ≤ 252 := by
  have key : ∀ k, k < nE K S → ∃ i, i < 1024 ∧ isE K S i = true ∧ ct (isE K S) i = k := fun k hk => ct_kth hk
  refine fb_holes 252 (nE K S) (fun k => if h : k < nE K S then chI (Classical.choose (key k h)) else 0) ?_ ?_
  · intro k hk
    simp only [dif_pos hk]
    exact ch_252 (Classical.choose_spec (key k hk)).1
  · intro i j hij hj
    have hi : i < nE K S := by omega
    simp only [dif_pos hj, dif_pos hi]
    intro e
    obtain ⟨a1, a2, a3⟩ := Classical.choose_spec (key i hi)
    obtain ⟨b1, b2, b3⟩ := Classical.choose_spec (key j hj)
    have hxy : Classical.choose (key i hi) = Classical.choose (key j hj) := by
      rcases ch_of a1 b1 e with q | q
      · exact isE_anti b1 a2 b2 q
      · exact (isE_anti a1 b2 a2 (by rw [Nat.and_comm]; exact q)).symm
    rw [hxy] at a3
    omega
/-! the steps of the search -/
theorem orb {x v : Nat} (i : Nat) (hd : x % 2 ^ (v + 1) = 0) : (x + 2 ^ v).testBit i = (x.testBit i || decide (v = i)) := by rw [← or_v hd, Nat.testBit_or, Nat.testBit_two_pow]
theorem any_or {K : Kn} {x v : Nat} (f : Nat) (hv : v < 10) (hd : x % 2 ^ (v + 1) = 0) : isL K f (x + 2 ^ v) = (isL K f x || lk K f v) := by
  apply Bool.eq_iff_iff.mpr
  rw [Bool.or_eq_true, isL_iff, isL_iff]
  constructor
  · rintro ⟨c, hc, hb, hl⟩
    rw [orb c hd, Bool.or_eq_true, decide_eq_true_eq] at hb
    rcases hb with hb | hb
    · exact Or.inl ⟨c, hc, hb, hl⟩
    · rw [hb]; exact Or.inr hl
  · rintro (⟨c, hc, hb, hl⟩ | hl)
    · exact ⟨c, hc, by rw [orb c hd, hb]; rfl, hl⟩
    · exact ⟨v, hv, by rw [orb v hd]; simp, hl⟩
theorem expl_or {K : Kn} {S : Nat → Nat} {x v : Nat} (hv : v < 10) (hd : x % 2 ^ (v + 1) = 0) : (thM S &&& foM K x) ||| (thM S &&& lfM K v) = thM S &&& foM K (x + 2 ^ v) := by
  have hb : ∀ a : Nat, thM S &&& a < 2 ^ 12 := fun a => Nat.lt_of_le_of_lt Nat.and_le_left (thM_lt S)
  apply bits_ext (n := 12) (Nat.or_lt_two_pow (hb _) (hb _)) (hb _)
  intro f hf
  rw [Nat.testBit_or, Nat.testBit_and, Nat.testBit_and, Nat.testBit_and, foM_bit K x hf, foM_bit K _ hf, lfM_bit K v hf]
  show ((thM S).testBit f && isL K f x || (thM S).testBit f && lk K f v) = ((thM S).testBit f && isL K f (x + 2 ^ v))
  rw [any_or f hv hd]
  cases (thM S).testBit f <;> rfl
theorem ct_add {p q : Nat → Bool} {v : Nat} (hp : p v = false) (h : ∀ i, i ≠ v → q i = p i) : ∀ n, v < n → ct q n = ct p n + (q v).toNat := by
  have lo : ∀ n, n ≤ v → ct q n = ct p n := fun n hn => ct_ext (fun i hi => h i (by omega))
  intro n
  induction n with
  | zero => intro h; omega
  | succ n ih =>
    intro hv
    rw [ct, ct]
    rcases Nat.lt_or_ge v n with c | c
    · rw [ih c, h n (by omega)]; omega
    · have e : v = n := by omega
      subst e
      rw [lo v (Nat.le_refl _), hp]
      rfl
theorem any_ct (p : Nat → Bool) : ∀ n, anyN p n = decide (0 < ct p n)
  | 0 => rfl
  | n + 1 => by
    rw [anyN, ct, any_ct p n]
    cases p n
    · simp
    · simp
theorem once_or {K : Kn} {S : Nat → Nat} {x v : Nat} (hv : v < 10) (hd : x % 2 ^ (v + 1) = 0) : ndf (onM K S x) (thM S &&& lfM K v) ||| ndf (thM S &&& lfM K v) (thM S &&& foM K x) = onM K S (x + 2 ^ v) := by
  have hb : ∀ a : Nat, thM S &&& a < 2 ^ 12 := fun a => Nat.lt_of_le_of_lt Nat.and_le_left (thM_lt S)
  apply bits_ext (n := 12) (Nat.or_lt_two_pow (ndf_lt _ (mkN_lt _ _)) (ndf_lt _ (hb _))) (mkN_lt _ _)
  intro f hf
  rw [Nat.testBit_or, ndf_bit, ndf_bit, Nat.testBit_and, Nat.testBit_and, foM_bit K x hf, lfM_bit K v hf, thM_bit S hf]
  simp only [mkN_bit, decide_eq_true hf, Bool.true_and]
  have hc := ct_add (p := fun c => x.testBit c && lk K f c) (q := fun c => (x + 2 ^ v).testBit c && lk K f c) (v := v) (by show (x.testBit v && lk K f v) = false; rw [lo_bits hd (by omega)]; rfl) (fun i hi => by
    show ((x + 2 ^ v).testBit i && lk K f i) = (x.testBit i && lk K f i)
    rw [orb i hd, decide_eq_false (Ne.symm hi), Bool.or_false]) 10 hv
  have hq : ((x + 2 ^ v).testBit v && lk K f v) = lk K f v := by rw [orb v hd]; simp
  rw [hc]
  show ((S f == 1 && (ct (fun c => x.testBit c && lk K f c) 10 == 1)) && !(S f == 1 && lk K f v) || (S f == 1 && lk K f v) && !(S f == 1 && anyN (fun c => x.testBit c && lk K f c) 10)) = (S f == 1 && (ct (fun c => x.testBit c && lk K f c) 10 + ((x + 2 ^ v).testBit v && lk K f v).toNat == 1))
  rw [hq, any_ct]
  generalize ct (fun c => x.testBit c && lk K f c) 10 = k
  cases S f == 1
  · rfl
  · cases lk K f v
    · simp
    · by_cases hk : k = 0
      · simp [hk]
      · have h1 : decide (0 < k) = true := decide_eq_true (by omega)
        have h2 : (k + true.toNat == 1) = false := by
          rw [beq_eq_false_iff_ne]
          show k + 1 ≠ 1
          omega
        rw [h1, h2]
        simp
theorem exc_or {K : Kn} {S : Nat → Nat} {x v : Nat} (hd : x % 2 ^ (v + 1) = 0) (hx : x &&& exM K S = 0) (h : (exM K S).testBit v = false) : (x + 2 ^ v) &&& exM K S = 0 := by
  rw [and0_iff]
  rintro i ⟨h1, h2⟩
  rw [orb i hd, Bool.or_eq_true, decide_eq_true_eq] at h1
  rcases h1 with h1 | h1
  · exact and0_iff.mp hx i ⟨h1, h2⟩
  · rw [← h1, h] at h2; cases h2
theorem ct_skip {p : Nat → Bool} {a b : Nat} (h : a ≤ b) (hz : ∀ y, a ≤ y → y < b → p y = false) : ct p b = ct p a := by
  induction b with
  | zero => rw [show a = 0 by omega]
  | succ b ih =>
    rcases Nat.lt_or_ge a (b + 1) with q | q
    · rw [ct, ih (by omega) (fun y h1 h2 => hz y h1 (by omega)), hz b (by omega) (by omega)]; rfl
    · rw [show a = b + 1 by omega]
theorem sm_skip {f : Nat → Nat} {a b : Nat} (h : a ≤ b) (hz : ∀ y, a ≤ y → y < b → f y = 0) : sm f b = sm f a := by
  induction b with
  | zero => rw [show a = 0 by omega]
  | succ b ih =>
    rcases Nat.lt_or_ge a (b + 1) with q | q
    · rw [sm, ih (by omega) (fun y h1 h2 => hz y h1 (by omega)), hz b (by omega) (by omega)]; rfl
    · rw [show a = b + 1 by omega]
theorem Ginv.skip {K : Kn} {S : Nat → Nat} {a b N T : Nat} {g : Nat → Nat} (h : Ginv K S a N T g) (hab : a ≤ b) (hz : ∀ y, a ≤ y → y < b → isE K S y = false) : Ginv K S b N T g := by
  refine ⟨by rw [ct_skip hab hz]; exact h.1, by rw [sm_skip hab (fun y h1 h2 => by rw [hz y h1 h2]; rfl)]; exact h.2.1, fun x hx he => ?_⟩
  rcases Nat.lt_or_ge x a with q | q
  · exact h.2.2 x q he
  · rw [hz x q hx] at he; cases he
theorem Ginv.add {K : Kn} {S : Nat → Nat} {b N T : Nat} {g : Nat → Nat} (h : Ginv K S b N T g) (he : isE K S b = true) : Ginv K S (b + 1) (N + 1) (T + wt K b) (va_up g N (key K b)) := by
  refine ⟨by rw [ct_step he, ← h.1], by rw [sm, he, ← h.2.1]; rfl, fun x hx hex => ?_⟩
  unfold va_up
  rcases Nat.lt_or_ge x b with q | q
  · have := ct_mono (isE K S) (show x + 1 ≤ b by omega)
    rw [ct_step hex, ← h.1] at this
    rw [if_neg (by omega)]
    exact h.2.2 x q hex
  · have e : x = b := by omega
    subst e
    rw [if_pos h.1.symm]
theorem Ginv.lt {K : Kn} {S : Nat → Nat} {b N T : Nat} {g : Nat → Nat} (h : Ginv K S b N T g) (hb : b < 1024) (he : isE K S b = true) : N < 252 := by
  have h1 := ct_mono (isE K S) (show b + 1 ≤ 1024 by omega)
  rw [ct_step he, ← h.1] at h1
  have := nE_le K S
  unfold nE at this
  omega
theorem wtI_ext {K : Kn} {x y : Nat} : ∀ u, (∀ i, i < u → x.testBit i = y.testBit i) → wtI K x u = wtI K y u
  | 0, _ => rfl
  | u + 1, h => by rw [wtI, wtI, wtI_ext u (fun i hi => h i (by omega)), h u (by omega)]
theorem rch_0 (K : Kn) (S : Nat → Nat) : rch K S 0 = 0 := (mkN_eq (by decide) (fun i _ => by rw [Nat.zero_testBit]; rfl)).symm
theorem rch_step (K : Kn) (S : Nat → Nat) {i : Nat} : rch K S i ||| (if exc K S i then 0 else lfM K i) = rch K S (i + 1) := by
  unfold rch
  apply mkN_eq
  · refine Nat.or_lt_two_pow (mkN_lt _ _) ?_
    split
    · decide
    · exact lfM_lt K i
  · intro f hf
    rw [Nat.testBit_or, mkN_bit, decide_eq_true hf, Bool.true_and, anyN]
    cases he : exc K S i
    · rw [if_neg (by decide), lfM_bit K i hf]; rfl
    · rw [if_pos rfl, Nat.zero_testBit]; rfl
theorem alone_0 (K : Kn) (o : Nat) : alone K 0 o = true := by
  unfold alone
  rw [anyN_false.mpr (fun i _ => by rw [Nat.zero_testBit]; rfl)]
  rfl
theorem foM_0 (K : Kn) : foM K 0 = 0 := (mkN_eq (by decide) (fun i _ => by
  rw [Nat.zero_testBit]
  exact (anyN_false.mpr (fun j _ => by rw [Nat.zero_testBit]; rfl)).symm)).symm
theorem onM_0 (K : Kn) (S : Nat → Nat) : onM K S 0 = 0 := (mkN_eq (by decide) (fun i _ => by
  rw [Nat.zero_testBit]
  have : ct (fun c => Nat.testBit 0 c && lk K i c) 10 = 0 := by
    rw [ct_skip (Nat.zero_le 10) (fun y _ _ => by rw [Nat.zero_testBit]; rfl)]
    rfl
  rw [this]
  simp)).symm
theorem Ginv_0 (K : Kn) (S : Nat → Nat) (g : Nat → Nat) : Ginv K S 0 0 0 g := ⟨rfl, rfl, fun x h => absurd h (Nat.not_lt_zero x)⟩
