/-! ===== the class: a bill is made while there is room ===== -/
/- UtilityWorks$Books billOf -/
def kh_933 : ct_T := (77, [(2, 209, 209, 1), (0, 0, 9, 1), (0, 0, 33, 1)], [], [], [(1, (2, 216, 555, 1), [(2, 209, 209, 1), (0, 0, 9, 1), (0, 0, 33, 1)], [], ([], []))], [], 0, 0, 0)
theorem kh_933_ok : ct_ok wd_fl2 kh_933 := ct_of (ff := wd_ff2) (y := (⟨"UtilityWorks$Books", "billOf", "(II)[J"⟩, prog_2_method_5_code, 3, some (.array .long), 0, 1, 2, 25016, 25014, 25015, 21010)) (Cs := []) (an := []) (ss := []) (K := 1) (fuel := 4000) wd_fl2_ok rfl (List.forall_mem_nil _) (by decide +kernel)
/- UtilityWorks$Books refundNow -/
def kh_934 : ct_T := (163, [(2, 209, 209, 1), (2, 1, 1, 1), (0, 0, 9, 1)], [], [], [(1, (1, (-9223372036854775808), 9223372036854775807, 1), [(2, 209, 209, 1), (2, 1, 1, 1), (0, 0, 9, 1)], [], ([], []))], [], 0, 0, 0)
theorem kh_934_ok : ct_ok wd_fl2 kh_934 := ct_of (ff := wd_ff2) (y := (⟨"UtilityWorks$Books", "refundNow", "(LUtilityWorks$Town;I)J"⟩, prog_2_method_19_code, 7, some .long, 0, 1, 2, 27048, 27047, 3003, 21010)) (Cs := []) (an := [(5, 0, ([((2, 209, 209, 1), none), ((2, 1, 1, 1), none), ((0, 0, 9, 1), none), ((1, (-9223372036854775808), 9223372036854775807, 1), none), ((0, 0, 3, 1), none)], [(0, 0), (1, 1), (2, 2), (3, 3), (5, 4)], [], [], [], [], [], [], none), [(0, 0, 99995), (1, 4, 3), (0, 0, 99995)])]) (ss := []) (K := 3) (fuel := 4000) wd_fl2_ok rfl (List.forall_mem_nil _) (by decide +kernel)
/- UtilityWorks$Customers meterOf -/
def kh_935 : ct_T := (166, [(2, 165, 165, 1), (0, 0, 9, 1), (0, 0, 2, 1)], [], [], [(1, (2, 179, 208, 1), [(2, 165, 165, 1), (0, 0, 9, 1), (0, 0, 2, 1)], [], ([], []))], [], 0, 0, 0)
theorem kh_935_ok : ct_ok wd_fl2 kh_935 := ct_of (ff := wd_ff2) (y := (⟨"UtilityWorks$Customers", "meterOf", "(II)[I"⟩, prog_4_method_4_code, 3, some (.array .int), 2, 1, 2, 27061, 27059, 27060, 21009)) (Cs := []) (an := []) (ss := []) (K := 1) (fuel := 4000) wd_fl2_ok rfl (List.forall_mem_nil _) (by decide +kernel)
/- UtilityWorks$Customers isConnected -/
def kh_936 : ct_T := (153, [(2, 165, 165, 1), (0, 0, 9, 1), (0, 0, 2, 1)], [], [], [(1, (0, 0, 0, 0), [(2, 165, 165, 1), (0, 0, 9, 1), (0, 0, 2, 1)], [], ([], [])), (1, (0, 1, 1, 0), [(2, 165, 165, 1), (0, 0, 9, 1), (0, 0, 2, 1)], [], ([], []))], [], 0, 0, 0)
theorem kh_936_ok : ct_ok wd_fl2 kh_936 := ct_of (ff := wd_ff2) (y := (⟨"UtilityWorks$Customers", "isConnected", "(II)Z"⟩, prog_4_method_5_code, 3, some .boolean, 2, 1, 2, 27003, 27001, 27002, 21009)) (Cs := []) (an := []) (ss := []) (K := 1) (fuel := 4000) wd_fl2_ok rfl (List.forall_mem_nil _) (by decide +kernel)
/- UtilityWorks$Books isEstimated -/
def kh_937 : ct_T := (167, [(2, 209, 209, 1), (2, 1, 1, 1), (0, 0, 9, 1), (0, 0, 2, 1)], [], [], [(1, (0, 1, 1, 0), [(2, 209, 209, 1), (2, 1, 1, 1), (0, 0, 9, 1), (0, 0, 2, 1)], [], ([], [])), (1, (0, 0, 0, 0), [(2, 209, 209, 1), (2, 1, 1, 1), (0, 0, 9, 1), (0, 0, 2, 1)], [], ([], []))], [], 1, 22, 0)
theorem kh_937_ok : ct_ok wd_fl2 kh_937 := ct_of (ff := wd_ff2) (y := (⟨"UtilityWorks$Books", "isEstimated", "(LUtilityWorks$Town;II)Z"⟩, prog_2_method_17_code, 5, some .boolean, 0, 1, 3, 27065, 27064, 3005, 21010)) (Cs := [kh_935, kh_936]) (an := [(35, 0, ([((2, 209, 209, 1), none), ((2, 1, 1, 1), none), ((0, 0, 9, 1), none), ((0, 0, 2, 1), none), ((2, 179, 208, 1), none)], [(0, 0), (1, 1), (2, 2), (3, 3), (4, 4)], [], [], [], [], [], [], none), [(0, 0, 99965)])]) (ss := []) (K := 1) (fuel := 4000) wd_fl2_ok rfl (List.forall_mem_cons.mpr ⟨kh_935_ok, (List.forall_mem_cons.mpr ⟨kh_936_ok, (List.forall_mem_nil _)⟩)⟩) (by decide +kernel)
/- UtilityWorks$Customers rate -/
def kh_938 : ct_T := (169, [(2, 165, 165, 1), (0, 0, 9, 1), (0, 0, 2, 1)], [], [], [(1, (0, (-2147483648), 2147483647, 1), [(2, 165, 165, 1), (0, 0, 9, 1), (0, 0, 2, 1)], [], ([], []))], [], 0, 0, 0)
theorem kh_938_ok : ct_ok wd_fl2 kh_938 := ct_of (ff := wd_ff2) (y := (⟨"UtilityWorks$Customers", "rate", "(II)I"⟩, prog_4_method_10_code, 5, some .int, 2, 1, 2, 27074, 27072, 27073, 21009)) (Cs := []) (an := [(30, 0, ([((2, 165, 165, 1), none), ((0, 0, 9, 1), none), ((0, 0, 2, 1), none), ((2, 179, 208, 1), none)], [(0, 0), (1, 1), (2, 2), (3, 3)], [], [], [], [], [], [], none), [(0, 0, 99970)])]) (ss := []) (K := 1) (fuel := 4000) wd_fl2_ok rfl (List.forall_mem_nil _) (by decide +kernel)
/- UtilityWorks$Customers estimateOn -/
def kh_939 : ct_T := (168, [(2, 165, 165, 1), (0, 0, 9, 1), (0, 0, 2, 1), (0, 0, 999, 1)], [], [], [(1, (0, (-2147483648), 2147483647, 1), [(2, 165, 165, 1), (0, 0, 9, 1), (0, 0, 2, 1), (0, 0, 999, 1)], [], ([], []))], [], 1, 24, 0)
theorem kh_939_ok : ct_ok wd_fl2 kh_939 := ct_of (ff := wd_ff2) (y := (⟨"UtilityWorks$Customers", "estimateOn", "(III)I"⟩, prog_4_method_12_code, 6, some .int, 2, 1, 3, 27070, 27068, 27069, 21009)) (Cs := [kh_938]) (an := []) (ss := []) (K := 1) (fuel := 4000) wd_fl2_ok rfl (List.forall_mem_cons.mpr ⟨kh_938_ok, (List.forall_mem_nil _)⟩) (by decide +kernel)
/- UtilityWorks$Books itemNow -/
def kh_940 : ct_T := (165, [(2, 209, 209, 1), (2, 1, 1, 1), (0, 0, 9, 1), (0, 0, 2, 1)], [], [], [(1, (1, (-9223372036854775808), 9223372036854775807, 1), [(2, 209, 209, 1), (2, 1, 1, 1), (0, 0, 9, 1), (0, 0, 2, 1)], [], ([], []))], [], 2, 49, 0)
theorem kh_940_ok : ct_ok wd_fl2 kh_940 := ct_of (ff := wd_ff2) (y := (⟨"UtilityWorks$Books", "itemNow", "(LUtilityWorks$Town;II)J"⟩, prog_2_method_18_code, 12, some .long, 0, 1, 3, 27057, 27056, 3004, 21010)) (Cs := [kh_935, kh_937, kh_939, kh_936]) (an := [(66, 0, ([((2, 209, 209, 1), none), ((2, 1, 1, 1), none), ((0, 0, 9, 1), none), ((0, 0, 2, 1), none), ((0, 0, 29, 1), none), ((2, 211, 213, 1), none), ((1, (-9223372036854775808), 9223372036854775807, 1), none)], [(0, 0), (1, 1), (2, 2), (3, 3), (4, 4), (5, 5), (6, 6)], [], [], [], [], [], [], none), [(0, 0, 99934)])]) (ss := []) (K := 1) (fuel := 4000) wd_fl2_ok rfl (List.forall_mem_cons.mpr ⟨kh_935_ok, (List.forall_mem_cons.mpr ⟨kh_937_ok, (List.forall_mem_cons.mpr ⟨kh_939_ok, (List.forall_mem_cons.mpr ⟨kh_936_ok, (List.forall_mem_nil _)⟩)⟩)⟩)⟩) (by decide +kernel)
/- UtilityWorks$Books sumNow -/
def kh_941 : ct_T := (164, [(2, 209, 209, 1), (2, 1, 1, 1), (0, 0, 9, 1)], [], [], [(1, (1, (-9223372036854775808), 9223372036854775807, 1), [(2, 209, 209, 1), (2, 1, 1, 1), (0, 0, 9, 1)], [], ([], []))], [], 3, 80, 0)
theorem kh_941_ok : ct_ok wd_fl2 kh_941 := ct_of (ff := wd_ff2) (y := (⟨"UtilityWorks$Books", "sumNow", "(LUtilityWorks$Town;I)J"⟩, prog_2_method_20_code, 6, some .long, 0, 1, 2, 27053, 27051, 27052, 21010)) (Cs := [kh_934, kh_940]) (an := [(11, 0, ([((2, 209, 209, 1), none), ((2, 1, 1, 1), none), ((0, 0, 9, 1), none), ((1, (-9223372036854775808), 9223372036854775807, 1), none), ((0, 0, 3, 1), none)], [(0, 0), (1, 1), (2, 2), (3, 3), (5, 4)], [], [], [], [], [], [], none), [(0, 0, 99989), (1, 4, 3), (0, 0, 99989)])]) (ss := []) (K := 3) (fuel := 4000) wd_fl2_ok rfl (List.forall_mem_cons.mpr ⟨kh_934_ok, (List.forall_mem_cons.mpr ⟨kh_940_ok, (List.forall_mem_nil _)⟩)⟩) (by decide +kernel)
/- UtilityWorks$Customers meterOf -/
def kh_942 : ct_T := (166, [(2, 165, 165, 1), (0, 0, 9, 1), (0, 0, 0, 0)], [], [], [(1, (2, 179, 206, 1), [(2, 165, 165, 1), (0, 0, 9, 1), (0, 0, 0, 0)], [], ([], []))], [], 0, 0, 0)
theorem kh_942_ok : ct_ok wd_fl2 kh_942 := ct_of (ff := wd_ff2) (y := (⟨"UtilityWorks$Customers", "meterOf", "(II)[I"⟩, prog_4_method_4_code, 3, some (.array .int), 2, 1, 2, 27061, 27059, 27060, 21009)) (Cs := []) (an := []) (ss := []) (K := 1) (fuel := 4000) wd_fl2_ok rfl (List.forall_mem_nil _) (by decide +kernel)
/- UtilityWorks$Customers isConnected -/
def kh_943 : ct_T := (153, [(2, 165, 165, 1), (0, 0, 9, 1), (0, 0, 0, 0)], [], [], [(1, (0, 0, 0, 0), [(2, 165, 165, 1), (0, 0, 9, 1), (0, 0, 0, 0)], [], ([], [])), (1, (0, 1, 1, 0), [(2, 165, 165, 1), (0, 0, 9, 1), (0, 0, 0, 0)], [], ([], []))], [], 0, 0, 0)
theorem kh_943_ok : ct_ok wd_fl2 kh_943 := ct_of (ff := wd_ff2) (y := (⟨"UtilityWorks$Customers", "isConnected", "(II)Z"⟩, prog_4_method_5_code, 3, some .boolean, 2, 1, 2, 27003, 27001, 27002, 21009)) (Cs := []) (an := []) (ss := []) (K := 1) (fuel := 4000) wd_fl2_ok rfl (List.forall_mem_nil _) (by decide +kernel)
/- UtilityWorks$Books isEstimated -/
def kh_944 : ct_T := (167, [(2, 209, 209, 1), (2, 1, 1, 1), (0, 0, 9, 1), (0, 0, 0, 0)], [], [], [(1, (0, 1, 1, 0), [(2, 209, 209, 1), (2, 1, 1, 1), (0, 0, 9, 1), (0, 0, 0, 0)], [], ([], [])), (1, (0, 0, 0, 0), [(2, 209, 209, 1), (2, 1, 1, 1), (0, 0, 9, 1), (0, 0, 0, 0)], [], ([], []))], [], 1, 22, 0)
theorem kh_944_ok : ct_ok wd_fl2 kh_944 := ct_of (ff := wd_ff2) (y := (⟨"UtilityWorks$Books", "isEstimated", "(LUtilityWorks$Town;II)Z"⟩, prog_2_method_17_code, 5, some .boolean, 0, 1, 3, 27065, 27064, 3005, 21010)) (Cs := [kh_942, kh_943]) (an := [(35, 0, ([((2, 209, 209, 1), none), ((2, 1, 1, 1), none), ((0, 0, 9, 1), none), ((0, 0, 0, 0), none), ((2, 179, 206, 1), none)], [(0, 0), (1, 1), (2, 2), (3, 3), (4, 4)], [], [], [], [], [], [], none), [(0, 0, 99965)])]) (ss := []) (K := 1) (fuel := 4000) wd_fl2_ok rfl (List.forall_mem_cons.mpr ⟨kh_942_ok, (List.forall_mem_cons.mpr ⟨kh_943_ok, (List.forall_mem_nil _)⟩)⟩) (by decide +kernel)
/- UtilityWorks$Customers rate -/
def kh_945 : ct_T := (169, [(2, 165, 165, 1), (0, 0, 9, 1), (0, 0, 0, 0)], [], [], [(1, (0, 0, 9999, 1), [(2, 165, 165, 1), (0, 0, 9, 1), (0, 0, 0, 0)], [], ([], []))], [], 0, 0, 0)
theorem kh_945_ok : ct_ok wd_fl2 kh_945 := ct_of (ff := wd_ff2) (y := (⟨"UtilityWorks$Customers", "rate", "(II)I"⟩, prog_4_method_10_code, 5, some .int, 2, 1, 2, 27074, 27072, 27073, 21009)) (Cs := []) (an := [(30, 0, ([((2, 165, 165, 1), none), ((0, 0, 9, 1), none), ((0, 0, 0, 0), none), ((2, 179, 206, 1), none)], [(0, 0), (1, 1), (2, 2), (3, 3)], [], [], [], [], [], [], none), [(0, 0, 99970)])]) (ss := []) (K := 1) (fuel := 4000) wd_fl2_ok rfl (List.forall_mem_nil _) (by decide +kernel)
/- UtilityWorks$Customers estimateOn -/
def kh_946 : ct_T := (168, [(2, 165, 165, 1), (0, 0, 9, 1), (0, 0, 0, 0), (0, 0, 999, 1)], [], [], [(1, (0, (-2147483648), 2147483647, 1), [(2, 165, 165, 1), (0, 0, 9, 1), (0, 0, 0, 0), (0, 0, 999, 1)], [], ([], []))], [], 1, 24, 0)
theorem kh_946_ok : ct_ok wd_fl2 kh_946 := ct_of (ff := wd_ff2) (y := (⟨"UtilityWorks$Customers", "estimateOn", "(III)I"⟩, prog_4_method_12_code, 6, some .int, 2, 1, 3, 27070, 27068, 27069, 21009)) (Cs := [kh_945]) (an := []) (ss := []) (K := 1) (fuel := 4000) wd_fl2_ok rfl (List.forall_mem_cons.mpr ⟨kh_945_ok, (List.forall_mem_nil _)⟩) (by decide +kernel)
/- UtilityWorks$Books itemNow -/
def kh_947 : ct_T := (165, [(2, 209, 209, 1), (2, 1, 1, 1), (0, 0, 9, 1), (0, 0, 0, 0)], [], [], [(1, (1, (-9223372036854775808), 9223372036854775807, 1), [(2, 209, 209, 1), (2, 1, 1, 1), (0, 0, 9, 1), (0, 0, 0, 0)], [], ([], []))], [], 2, 49, 0)
theorem kh_947_ok : ct_ok wd_fl2 kh_947 := ct_of (ff := wd_ff2) (y := (⟨"UtilityWorks$Books", "itemNow", "(LUtilityWorks$Town;II)J"⟩, prog_2_method_18_code, 12, some .long, 0, 1, 3, 27057, 27056, 3004, 21010)) (Cs := [kh_942, kh_944, kh_946, kh_943]) (an := [(66, 0, ([((2, 209, 209, 1), none), ((2, 1, 1, 1), none), ((0, 0, 9, 1), none), ((0, 0, 0, 0), none), ((0, 0, 27, 3), none), ((2, 211, 211, 1), none), ((1, (-9223372036854775808), 9223372036854775807, 1), none)], [(0, 0), (1, 1), (2, 2), (3, 3), (4, 4), (5, 5), (6, 6)], [], [], [], [], [], [], none), [(0, 0, 99934)])]) (ss := []) (K := 1) (fuel := 4000) wd_fl2_ok rfl (List.forall_mem_cons.mpr ⟨kh_942_ok, (List.forall_mem_cons.mpr ⟨kh_944_ok, (List.forall_mem_cons.mpr ⟨kh_946_ok, (List.forall_mem_cons.mpr ⟨kh_943_ok, (List.forall_mem_nil _)⟩)⟩)⟩)⟩) (by decide +kernel)
/- UtilityWorks$Customers readEstimated -/
def kh_948 : ct_T := (170, [(2, 165, 165, 1), (0, 0, 9, 1), (0, 0, 0, 0), (0, 0, 999, 1)], [], [], [(1, (0, (-2147483648), 2147483647, 1), [(2, 165, 165, 1), (0, 0, 9, 1), (0, 0, 0, 0), (0, 0, 999, 1)], [], ([], []))], [((179, 206), (3, 3, 0)), ((179, 206), (4, 4, 0)), ((179, 206), (5, 5, 0))], 2, 49, 0)
theorem kh_948_ok : ct_ok wd_fl2 kh_948 := ct_of (ff := wd_ff2) (y := (⟨"UtilityWorks$Customers", "readEstimated", "(III)I"⟩, prog_4_method_13_code, 6, some .int, 2, 1, 3, 27081, 27079, 27080, 21009)) (Cs := [kh_946]) (an := []) (ss := []) (K := 1) (fuel := 4000) wd_fl2_ok rfl (List.forall_mem_cons.mpr ⟨kh_946_ok, (List.forall_mem_nil _)⟩) (by decide +kernel)
/- UtilityWorks$Customers meterOf -/
def kh_949 : ct_T := (166, [(2, 165, 165, 1), (0, 0, 9, 1), (0, 0, 1, 1)], [], [], [(1, (2, 179, 207, 1), [(2, 165, 165, 1), (0, 0, 9, 1), (0, 0, 1, 1)], [], ([], []))], [], 0, 0, 0)
theorem kh_949_ok : ct_ok wd_fl2 kh_949 := ct_of (ff := wd_ff2) (y := (⟨"UtilityWorks$Customers", "meterOf", "(II)[I"⟩, prog_4_method_4_code, 3, some (.array .int), 2, 1, 2, 27061, 27059, 27060, 21009)) (Cs := []) (an := []) (ss := []) (K := 1) (fuel := 4000) wd_fl2_ok rfl (List.forall_mem_nil _) (by decide +kernel)
/- UtilityWorks$Customers isConnected -/
def kh_950 : ct_T := (153, [(2, 165, 165, 1), (0, 0, 9, 1), (0, 0, 1, 1)], [], [], [(1, (0, 0, 0, 0), [(2, 165, 165, 1), (0, 0, 9, 1), (0, 0, 1, 1)], [], ([], [])), (1, (0, 1, 1, 0), [(2, 165, 165, 1), (0, 0, 9, 1), (0, 0, 1, 1)], [], ([], []))], [], 0, 0, 0)
theorem kh_950_ok : ct_ok wd_fl2 kh_950 := ct_of (ff := wd_ff2) (y := (⟨"UtilityWorks$Customers", "isConnected", "(II)Z"⟩, prog_4_method_5_code, 3, some .boolean, 2, 1, 2, 27003, 27001, 27002, 21009)) (Cs := []) (an := []) (ss := []) (K := 1) (fuel := 4000) wd_fl2_ok rfl (List.forall_mem_nil _) (by decide +kernel)
/- UtilityWorks$Books isEstimated -/
def kh_951 : ct_T := (167, [(2, 209, 209, 1), (2, 1, 1, 1), (0, 0, 9, 1), (0, 0, 1, 1)], [], [], [(1, (0, 1, 1, 0), [(2, 209, 209, 1), (2, 1, 1, 1), (0, 0, 9, 1), (0, 0, 1, 1)], [], ([], [])), (1, (0, 0, 0, 0), [(2, 209, 209, 1), (2, 1, 1, 1), (0, 0, 9, 1), (0, 0, 1, 1)], [], ([], []))], [], 1, 22, 0)
theorem kh_951_ok : ct_ok wd_fl2 kh_951 := ct_of (ff := wd_ff2) (y := (⟨"UtilityWorks$Books", "isEstimated", "(LUtilityWorks$Town;II)Z"⟩, prog_2_method_17_code, 5, some .boolean, 0, 1, 3, 27065, 27064, 3005, 21010)) (Cs := [kh_949, kh_950]) (an := [(35, 0, ([((2, 209, 209, 1), none), ((2, 1, 1, 1), none), ((0, 0, 9, 1), none), ((0, 0, 1, 1), none), ((2, 179, 207, 1), none)], [(0, 0), (1, 1), (2, 2), (3, 3), (4, 4)], [], [], [], [], [], [], none), [(0, 0, 99965)])]) (ss := []) (K := 1) (fuel := 4000) wd_fl2_ok rfl (List.forall_mem_cons.mpr ⟨kh_949_ok, (List.forall_mem_cons.mpr ⟨kh_950_ok, (List.forall_mem_nil _)⟩)⟩) (by decide +kernel)
/- UtilityWorks$Customers rate -/
def kh_952 : ct_T := (169, [(2, 165, 165, 1), (0, 0, 9, 1), (0, 0, 1, 1)], [], [], [(1, (0, (-2147483648), 2147483647, 1), [(2, 165, 165, 1), (0, 0, 9, 1), (0, 0, 1, 1)], [], ([], []))], [], 0, 0, 0)
theorem kh_952_ok : ct_ok wd_fl2 kh_952 := ct_of (ff := wd_ff2) (y := (⟨"UtilityWorks$Customers", "rate", "(II)I"⟩, prog_4_method_10_code, 5, some .int, 2, 1, 2, 27074, 27072, 27073, 21009)) (Cs := []) (an := [(30, 0, ([((2, 165, 165, 1), none), ((0, 0, 9, 1), none), ((0, 0, 1, 1), none), ((2, 179, 207, 1), none)], [(0, 0), (1, 1), (2, 2), (3, 3)], [], [], [], [], [], [], none), [(0, 0, 99970)])]) (ss := []) (K := 1) (fuel := 4000) wd_fl2_ok rfl (List.forall_mem_nil _) (by decide +kernel)
/- UtilityWorks$Customers estimateOn -/
def kh_953 : ct_T := (168, [(2, 165, 165, 1), (0, 0, 9, 1), (0, 0, 1, 1), (0, 0, 999, 1)], [], [], [(1, (0, (-2147483648), 2147483647, 1), [(2, 165, 165, 1), (0, 0, 9, 1), (0, 0, 1, 1), (0, 0, 999, 1)], [], ([], []))], [], 1, 24, 0)
theorem kh_953_ok : ct_ok wd_fl2 kh_953 := ct_of (ff := wd_ff2) (y := (⟨"UtilityWorks$Customers", "estimateOn", "(III)I"⟩, prog_4_method_12_code, 6, some .int, 2, 1, 3, 27070, 27068, 27069, 21009)) (Cs := [kh_952]) (an := []) (ss := []) (K := 1) (fuel := 4000) wd_fl2_ok rfl (List.forall_mem_cons.mpr ⟨kh_952_ok, (List.forall_mem_nil _)⟩) (by decide +kernel)
/- UtilityWorks$Books itemNow -/
def kh_954 : ct_T := (165, [(2, 209, 209, 1), (2, 1, 1, 1), (0, 0, 9, 1), (0, 0, 1, 1)], [], [], [(1, (1, (-9223372036854775808), 9223372036854775807, 1), [(2, 209, 209, 1), (2, 1, 1, 1), (0, 0, 9, 1), (0, 0, 1, 1)], [], ([], []))], [], 2, 49, 0)
theorem kh_954_ok : ct_ok wd_fl2 kh_954 := ct_of (ff := wd_ff2) (y := (⟨"UtilityWorks$Books", "itemNow", "(LUtilityWorks$Town;II)J"⟩, prog_2_method_18_code, 12, some .long, 0, 1, 3, 27057, 27056, 3004, 21010)) (Cs := [kh_949, kh_951, kh_953, kh_950]) (an := [(66, 0, ([((2, 209, 209, 1), none), ((2, 1, 1, 1), none), ((0, 0, 9, 1), none), ((0, 0, 1, 1), none), ((0, 0, 28, 1), none), ((2, 211, 212, 1), none), ((1, (-9223372036854775808), 9223372036854775807, 1), none)], [(0, 0), (1, 1), (2, 2), (3, 3), (4, 4), (5, 5), (6, 6)], [], [], [], [], [], [], none), [(0, 0, 99934)])]) (ss := []) (K := 1) (fuel := 4000) wd_fl2_ok rfl (List.forall_mem_cons.mpr ⟨kh_949_ok, (List.forall_mem_cons.mpr ⟨kh_951_ok, (List.forall_mem_cons.mpr ⟨kh_953_ok, (List.forall_mem_cons.mpr ⟨kh_950_ok, (List.forall_mem_nil _)⟩)⟩)⟩)⟩) (by decide +kernel)
/- UtilityWorks$Customers readEstimated -/
def kh_955 : ct_T := (170, [(2, 165, 165, 1), (0, 0, 9, 1), (0, 0, 1, 1), (0, 0, 999, 1)], [], [], [(1, (0, (-2147483648), 2147483647, 1), [(2, 165, 165, 1), (0, 0, 9, 1), (0, 0, 1, 1), (0, 0, 999, 1)], [], ([], []))], [((179, 207), (3, 3, 0)), ((179, 207), (4, 4, 0)), ((179, 207), (5, 5, 0))], 2, 49, 0)
theorem kh_955_ok : ct_ok wd_fl2 kh_955 := ct_of (ff := wd_ff2) (y := (⟨"UtilityWorks$Customers", "readEstimated", "(III)I"⟩, prog_4_method_13_code, 6, some .int, 2, 1, 3, 27081, 27079, 27080, 21009)) (Cs := [kh_953]) (an := []) (ss := []) (K := 1) (fuel := 4000) wd_fl2_ok rfl (List.forall_mem_cons.mpr ⟨kh_953_ok, (List.forall_mem_nil _)⟩) (by decide +kernel)
/- UtilityWorks$Customers readEstimated -/
def kh_956 : ct_T := (170, [(2, 165, 165, 1), (0, 0, 9, 1), (0, 0, 2, 1), (0, 0, 999, 1)], [], [], [(1, (0, (-2147483648), 2147483647, 1), [(2, 165, 165, 1), (0, 0, 9, 1), (0, 0, 2, 1), (0, 0, 999, 1)], [], ([], []))], [((179, 208), (3, 3, 0)), ((179, 208), (4, 4, 0)), ((179, 208), (5, 5, 0))], 2, 49, 0)
theorem kh_956_ok : ct_ok wd_fl2 kh_956 := ct_of (ff := wd_ff2) (y := (⟨"UtilityWorks$Customers", "readEstimated", "(III)I"⟩, prog_4_method_13_code, 6, some .int, 2, 1, 3, 27081, 27079, 27080, 21009)) (Cs := [kh_939]) (an := []) (ss := []) (K := 1) (fuel := 4000) wd_fl2_ok rfl (List.forall_mem_cons.mpr ⟨kh_939_ok, (List.forall_mem_nil _)⟩) (by decide +kernel)
/- UtilityWorks$Books useCredit -/
def kh_957 : ct_T := (172, [(2, 209, 209, 1), (0, 0, 9, 1)], [], [], [(0, (0, 0, 0, 0), [(2, 209, 209, 1), (0, 0, 9, 1)], [], ([], []))], [((216, 555), (7, 7, 0)), ((559, 559), (0, 9, 1))], 1, 40, 0)
theorem kh_957_ok : ct_ok wd_fl2 kh_957 := ct_of (ff := wd_ff2) (y := (⟨"UtilityWorks$Books", "useCredit", "(I)V"⟩, prog_2_method_9_code, 6, none, 0, 1, 1, 27094, 27093, 3007, 21010)) (Cs := [kh_933]) (an := [(2, 0, ([((2, 209, 209, 1), none), ((0, 0, 9, 1), none), ((0, 0, 34, 1), none)], [(0, 0), (1, 1), (2, 2)], [], [], [], [], [], [], none), [(0, 0, 99998), (1, 2, 34), (0, 0, 99998)])]) (ss := []) (K := 3) (fuel := 4000) wd_fl2_ok rfl (List.forall_mem_cons.mpr ⟨kh_933_ok, (List.forall_mem_nil _)⟩) (by decide +kernel)
/- UtilityWorks$Books settle -/
def kh_958 : ct_T := (171, [(2, 209, 209, 1), (0, 0, 9, 1), (2, 216, 555, 1)], [], [], [(0, (0, 0, 0, 0), [(2, 209, 209, 1), (0, 0, 9, 1), (2, 216, 555, 1)], [], ([], []))], [((214, 214), (0, 0, 0)), ((214, 214), (2, 2, 0)), ((214, 214), (3, 3, 0)), ((214, 214), (5, 5, 0)), ((216, 555), (5, 5, 0)), ((216, 555), (7, 7, 0)), ((559, 559), (0, 9, 1))], 2, 65, 0)
theorem kh_958_ok : ct_ok wd_fl2 kh_958 := ct_of (ff := wd_ff2) (y := (⟨"UtilityWorks$Books", "settle", "(I[J)V"⟩, prog_2_method_22_code, 3, none, 0, 1, 2, 27086, 27085, 3006, 21010)) (Cs := [kh_957]) (an := []) (ss := []) (K := 1) (fuel := 4000) wd_fl2_ok rfl (List.forall_mem_cons.mpr ⟨kh_957_ok, (List.forall_mem_nil _)⟩) (by decide +kernel)
abbrev kh_makeBill_y : mt_T := (⟨"UtilityWorks$Books", "makeBill", "(LUtilityWorks$Town;I)V"⟩, prog_2_method_21_code, 7, none, 0, 1, 2, 27044, 27043, 3002, 21010)
def kh_makeBill : ct_T := (162, [(2, 209, 209, 1), (2, 1, 1, 1), (0, 0, 9, 1)], [], [], [(0, (0, 0, 0, 0), [(2, 209, 209, 1), (2, 1, 1, 1), (0, 0, 9, 1)], [], ([], []))], [((179, 208), (3, 3, 0)), ((179, 208), (4, 4, 0)), ((179, 208), (5, 5, 0)), ((179, 208), (13, 13, 0)), ((214, 214), (0, 0, 0)), ((214, 214), (2, 2, 0)), ((214, 214), (3, 3, 0)), ((214, 214), (5, 5, 0)), ((216, 555), (0, 0, 0)), ((216, 555), (1, 3, 1)), ((216, 555), (4, 4, 0)), ((216, 555), (5, 5, 0)), ((216, 555), (6, 6, 0)), ((216, 555), (7, 7, 0)), ((556, 556), (0, 9, 1)), ((557, 557), (0, 29, 1)), ((558, 558), (0, 29, 1)), ((559, 559), (0, 9, 1))], 4, 105, 0)
def kh_makeBill_a54 : an_T := (54, 0, ([((2, 209, 209, 1), none), ((2, 1, 1, 1), none), ((0, 0, 9, 1), none), ((2, 216, 555, 1), none), ((0, 0, 3, 1), none)], [(0, 0), (1, 1), (2, 2), (3, 3), (4, 4)], [], [], [], [], [], [], none), [])
def kh_makeBill_a174 : an_T := (174, 0, ([((2, 209, 209, 1), none), ((2, 1, 1, 1), none), ((0, 0, 9, 1), none), ((2, 216, 555, 1), none), ((0, 3, 3, 1), none), ((0, 1, 35, 1), none), ((2, 556, 556, 1), none)], [(0, 0), (1, 1), (2, 2), (3, 3), (4, 4)], [5, 2, 6], [], [], [], [], [], none), [])
def kh_makeBill_b0_0 : sg_T := (54, 0, ([((2, 209, 209, 1), none), ((2, 1, 1, 1), none), ((0, 0, 9, 1), none), ((2, 556, 556, 1), none), ((0, 0, 33, 1), none), ((0, 34, 34, 0), none), ((2, 556, 556, 1), none), ((2, 216, 555, 1), none), ((0, 0, 0, 0), none), ((0, 0, 0, 0), none), ((0, 0, 999, 1), none), ((1, 0, 999, 1), none), ((0, 4, 4, 0), none), ((1, (-9223372036854775808), 9223372036854775807, 1), none), ((0, 6, 6, 0), none), ((1, (-9223372036854775808), 9223372036854775807, 1), none), ((0, 0, 0, 0), none)], [(4, 16), (3, 7), (0, 0), (1, 1), (2, 2)], [], [(1, 9, 10), (3, 2, 4)], [], [(800010, 1, 9), (100000, 4, 5), (800004, 3, 2)], [], [], none))
def kh_makeBill_b0_1 : sg_T := (11, 0, ([((2, 209, 209, 1), none), ((2, 1, 1, 1), none), ((0, 0, 9, 1), none), ((2, 556, 556, 1), none), ((0, 34, 34, 1), none), ((0, 34, 34, 0), none)], [(0, 0), (1, 1), (2, 2)], [], [(3, 2, 4)], [], [(200000, 5, 4), (800004, 3, 2)], [], [], some []))
def kh_makeBill_b54_0 : sg_T := (174, 0, ([((2, 209, 209, 1), none), ((2, 1, 1, 1), none), ((0, 0, 9, 1), none), ((2, 216, 555, 1), none), ((0, 3, 3, 1), none), ((0, 3, 3, 0), none), ((2, 556, 556, 1), none), ((0, 0, 34, 1), none), ((0, 1, 1, 0), none), ((0, 1, 35, 1), some (7, 1))], [(0, 0), (1, 1), (2, 2), (3, 3), (4, 4)], [9, 2, 6], [(6, 2, 7)], [], [(500009, 7, 8), (800007, 6, 2), (200000, 5, 4)], [], [], some []))
def kh_makeBill_b54_1 : sg_T := (54, 0, ([((2, 209, 209, 1), none), ((2, 1, 1, 1), none), ((0, 0, 9, 1), none), ((2, 216, 555, 1), none), ((0, 0, 2, 1), none), ((0, 3, 3, 0), none), ((0, 3, 3, 0), none), ((0, 0, 27, 3), none), ((0, 0, 29, 1), none), ((2, 165, 165, 1), none), ((2, 179, 208, 1), none), ((0, 1, 1, 0), none), ((0, 1, 3, 1), none), ((1, (-9223372036854775808), 9223372036854775807, 1), none), ((0, 1, 1, 0), none), ((2, 165, 165, 1), none), ((0, 0, 0, 0), none), ((0, 0, 999, 1), none), ((0, (-2147483648), 2147483647, 1), none), ((0, 13, 13, 0), none), ((0, 0, 0, 0), none), ((2, 557, 557, 1), none), ((0, 3, 3, 0), none), ((0, (-2147483648), 2147483647, 1), none), ((2, 558, 558, 1), none), ((2, 165, 165, 1), none), ((2, 166, 166, 1), none), ((2, 167, 176, 1), none), ((0, 9, 9, 0), none), ((0, 9, 11, 1), none), ((0, (-2147483648), 2147483647, 1), none), ((0, 1, 3, 1), some (4, 1))], [(4, 31), (6, 10), (5, 8), (0, 0), (1, 1), (2, 2), (3, 3)], [], [(24, 8, 30), (27, 29, 30), (21, 8, 23), (10, 22, 23), (10, 19, 20), (1, 16, 17)], [(14, 0)], [(500012, 11, 4), (500008, 7, 4), (700007, 6, 2), (100000, 4, 5)], [], [], none))
def kh_makeBill_b54_2 : sg_T := (54, 0, ([((2, 209, 209, 1), none), ((2, 1, 1, 1), none), ((0, 0, 9, 1), none), ((2, 216, 555, 1), none), ((0, 0, 2, 1), none), ((0, 3, 3, 0), none), ((0, 3, 3, 0), none), ((0, 0, 27, 3), none), ((0, 0, 29, 1), none), ((2, 165, 165, 1), none), ((2, 179, 208, 1), none), ((0, 1, 1, 0), none), ((0, 1, 3, 1), none), ((1, (-9223372036854775808), 9223372036854775807, 1), none), ((0, 0, 0, 0), none), ((0, 13, 13, 0), none), ((0, 0, 0, 0), none), ((2, 557, 557, 1), none), ((0, 3, 3, 0), none), ((0, (-2147483648), 2147483647, 1), none), ((2, 558, 558, 1), none), ((2, 165, 165, 1), none), ((2, 166, 166, 1), none), ((2, 167, 176, 1), none), ((0, 9, 9, 0), none), ((0, 9, 11, 1), none), ((0, (-2147483648), 2147483647, 1), none), ((0, 1, 3, 1), some (4, 1))], [(4, 27), (6, 10), (5, 8), (0, 0), (1, 1), (2, 2), (3, 3)], [], [(20, 8, 26), (23, 25, 26), (17, 8, 19), (10, 18, 19), (10, 15, 16)], [], [(500012, 11, 4), (500008, 7, 4), (700007, 6, 2), (100000, 4, 5)], [], [], none))
def kh_makeBill_b174_0 : sg_T := (181, 0, ([((2, 209, 209, 1), none), ((2, 1, 1, 1), none), ((0, 0, 9, 1), none), ((2, 216, 555, 1), none), ((0, 3, 3, 1), none), ((0, 1, 34, 1), none), ((2, 556, 556, 1), none)], [(0, 0), (1, 1), (2, 2), (3, 3), (4, 4)], [], [(6, 2, 5)], [], [], [], [], none))
def kh_makeBill_I (l : Launch) (D : va_G) (tc : Nat → ClassId) (ad : Nat → Nat) (kd : Nat → Nat × Nat) (N : Nat) (sm : Nat → Nat) (xs : List av_X) (S : fw_S) (p : Program) (e : Env) (s : State) (m : MethodId) (args : Array Value) (below : List Frame) (meth : Method) (c : Code) (sz : Nat) (k : Nat) : Prop := (∀ (α : List av_X) (lv : List (Nat × Value)) (st : List Value) (S1 : fw_S), as_in ad sm wd_fl2 xs S kh_makeBill.2.2.2.2.2.1 α kh_makeBill_a54.2.2.1 lv st S1 → ((S1.1 556 (nv xs 2).toNat).toInt ≤ 33) → (4 - nv α 4).toNat + 1 < k → hd_W wd_fl2 kh_makeBill kh_makeBill_y l D tc ad kd N sm xs S p e s m args below meth c sz 54 lv st S1 0) ∧ (∀ (α : List av_X) (lv : List (Nat × Value)) (st : List Value) (S1 : fw_S), as_in ad sm wd_fl2 xs S kh_makeBill.2.2.2.2.2.1 α kh_makeBill_a174.2.2.1 lv st S1 → (1 ≤ nv α 5 ∧ nv α 5 ≤ 34) → 0 < k → hd_W wd_fl2 kh_makeBill kh_makeBill_y l D tc ad kd N sm xs S p e s m args below meth c sz 174 lv st S1 0) ∧ True
set_option maxHeartbeats 16000000 in
set_option maxRecDepth 8000 in
theorem kh_makeBill_h54 {l : Launch} {D : va_G} {tc : Nat → ClassId} {ad : Nat → Nat} {kd : Nat → Nat × Nat} {N : Nat} {sm : Nat → Nat} {xs : List av_X} {S : fw_S} {p : Program} {e : Env} {s : State} {m : MethodId} {args : Array Value} {below : List Frame} {meth : Method} {c : Code} {sz : Nat} {lvE : List (Nat × Value)} (G : hd_C wd_ff2 wd_fl2 kh_makeBill [kh_933, kh_934, kh_941, kh_942, kh_947, kh_944, kh_948, kh_949, kh_954, kh_951, kh_955, kh_935, kh_940, kh_937, kh_956, kh_958] kh_makeBill_y l D tc ad kd N sm xs p s m args meth c sz) (H0 : as_in ad sm wd_fl2 xs S kh_makeBill.2.2.2.2.2.1 xs (hd_0 kh_makeBill) lvE [] S) {k : Nat} (ih : kh_makeBill_I l D tc ad kd N sm xs S p e s m args below meth c sz k) : (∀ (α : List av_X) (lv : List (Nat × Value)) (st : List Value) (S1 : fw_S), as_in ad sm wd_fl2 xs S kh_makeBill.2.2.2.2.2.1 α kh_makeBill_a54.2.2.1 lv st S1 → ((S1.1 556 (nv xs 2).toNat).toInt ≤ 33) → (4 - nv α 4).toNat + 1 < k + 1 → hd_W wd_fl2 kh_makeBill kh_makeBill_y l D tc ad kd N sm xs S p e s m args below meth c sz 54 lv st S1 0) := by
  have hx : xs.length = 3 := by rw [H0.2.1.1]; rfl
  intro α lv st S1 H hp hk
  obtain ⟨α1, hle, Hr⟩ := as_recM (pl := []) [((179, 208), (3, 3, 0)), ((179, 208), (4, 4, 0)), ((179, 208), (5, 5, 0)), ((179, 208), (13, 13, 0)), ((216, 555), (1, 3, 1)), ((557, 557), (0, 29, 1)), ((558, 558), (0, 29, 1))] (by decide +kernel) H
  have hf := H.2.2.2.2.2.2.2.2.2.2.1
  have hl1 : α1.length = 5 := by rw [Hr.2.1.1]; rfl
  have hl0 : α.length = 5 := by rw [H.2.1.1]; rfl
  have hxa : al_le xs α1 := H.1.trans hle
  obtain ⟨g1, -, g3, g4, -⟩ := as_fx Hr
  have g0 : (209 ≤ nv α1 0 ∧ nv α1 0 ≤ 209) ∧ (1 ≤ nv α1 1 ∧ nv α1 1 ≤ 1) ∧ (0 ≤ nv α1 2 ∧ nv α1 2 ≤ 9) ∧ (216 ≤ nv α1 3 ∧ nv α1 3 ≤ 555) ∧ (0 ≤ nv α1 4 ∧ nv α1 4 ≤ 3) ∧ True := by
    refine ⟨by have h := (en_nv (i := 0) Hr.2.1 rfl).2; exact h, by have h := (en_nv (i := 1) Hr.2.1 rfl).2; exact h, by have h := (en_nv (i := 2) Hr.2.1 rfl).2; exact h, by have h := (en_nv (i := 3) Hr.2.1 rfl).2; exact h, by have h := (en_nv (i := 4) Hr.2.1 rfl).2; exact h, trivial⟩
  have r0 : nv α1 0 = nv α 0 := nv_le hle (by omega)
  have r1 : nv α1 1 = nv α 1 := nv_le hle (by omega)
  have r2 : nv α1 2 = nv α 2 := nv_le hle (by omega)
  have r3 : nv α1 3 = nv α 3 := nv_le hle (by omega)
  have r4 : nv α1 4 = nv α 4 := nv_le hle (by omega)
  refine hd_segM G (na := 5) (fuel := 600) (first := true) (Bs := [kh_makeBill_b54_0, kh_makeBill_b54_1, kh_makeBill_b54_2]) (by decide +kernel) hl1 Hr ?_
  intro q hq β lv' st' S' H1
  simp only [List.mem_cons, List.not_mem_nil, or_false] at hq
  rcases hq with rfl | rfl | rfl
  · obtain ⟨f1, f2, f3, f4, f5⟩ := as_fx H1
    simp only [kh_makeBill_b54_0, fx_env, fx_c, fx_ne, fx_hf, wl_S, Nat.zero_add, Nat.reduceAdd, Nat.reduceDiv, Nat.reduceMod, List.getElem?_cons_zero, List.getElem?_cons_succ, if_true, and_true, true_and] at f1 f2 f3 f4 f5
    have fe0 : nv β 0 = 209 := by omega
    have fe1 : nv β 1 = 1 := by omega
    have fe4 : nv β 4 = 3 := by omega
    have fe5 : nv β 5 = 3 := by omega
    have fe6 : nv β 6 = 556 := by omega
    have fe8 : nv β 8 = 1 := by omega
    try simp only [fe0, fe1, fe4, fe5, fe6, fe8, Int.reduceToNat] at f2 f3 f4 f5
    have s0 : nv β 0 = nv α1 0 := nv_le H1.1 (by omega)
    have s1 : nv β 1 = nv α1 1 := nv_le H1.1 (by omega)
    have s2 : nv β 2 = nv α1 2 := nv_le H1.1 (by omega)
    have s3 : nv β 3 = nv α1 3 := nv_le H1.1 (by omega)
    have s4 : nv β 4 = nv α1 4 := nv_le H1.1 (by omega)
    obtain ⟨c0, c1, c2⟩ := f2
    obtain ⟨α', Ha, hm⟩ := hd_gpM (q := kh_makeBill_a174) (n := 0) (by decide +kernel) hx H1 (by decide +kernel) hxa hf
    have hfr := H1.2.2.2.2.2.2.2.2.2.2.1
    have m0 : nv α' 0 = nv β 0 := hm 0 0 rfl
    have m1 : nv α' 1 = nv β 1 := hm 1 1 rfl
    have m2 : nv α' 2 = nv β 2 := hm 2 2 rfl
    have m3 : nv α' 3 = nv β 3 := hm 3 3 rfl
    have m4 : nv α' 4 = nv β 4 := hm 4 4 rfl
    have m5 : nv α' 5 = nv β 9 := hm 5 9 rfl
    have m6 : nv α' 6 = nv β 6 := hm 6 6 rfl
    subst S'
    have o1 := old_0 c1 rfl
    have z2 : nv α 2 = nv xs 2 := nv_le H.1 (by omega)
    rw [show nv xs 2 = nv β 2 by omega] at hp
    refine ih.2.1 _ _ _ _ Ha ?_ ?_
    · refine ⟨?_, ?_⟩ <;> omega
    · omega
  · obtain ⟨f1, f2, f3, f4, f5⟩ := as_fx H1
    simp only [kh_makeBill_b54_1, fx_env, fx_c, fx_ne, fx_hf, wl_S, Nat.zero_add, Nat.reduceAdd, Nat.reduceDiv, Nat.reduceMod, List.getElem?_cons_zero, List.getElem?_cons_succ, if_true, and_true, true_and] at f1 f2 f3 f4 f5
    have fe0 : nv β 0 = 209 := by omega
    have fe1 : nv β 1 = 1 := by omega
    have fe5 : nv β 5 = 3 := by omega
    have fe6 : nv β 6 = 3 := by omega
    have fe9 : nv β 9 = 165 := by omega
    have fe11 : nv β 11 = 1 := by omega
    have fe14 : nv β 14 = 1 := by omega
    have fe15 : nv β 15 = 165 := by omega
    have fe16 : nv β 16 = 0 := by omega
    have fe19 : nv β 19 = 13 := by omega
    have fe20 : nv β 20 = 0 := by omega
    have fe21 : nv β 21 = 557 := by omega
    have fe22 : nv β 22 = 3 := by omega
    have fe24 : nv β 24 = 558 := by omega
    have fe25 : nv β 25 = 165 := by omega
    have fe26 : nv β 26 = 166 := by omega
    have fe28 : nv β 28 = 9 := by omega
    try simp only [fe0, fe1, fe5, fe6, fe9, fe11, fe14, fe15, fe16, fe19, fe20, fe21, fe22, fe24, fe25, fe26, fe28, Int.reduceToNat] at f2 f3 f4 f5
    have s0 : nv β 0 = nv α1 0 := nv_le H1.1 (by omega)
    have s1 : nv β 1 = nv α1 1 := nv_le H1.1 (by omega)
    have s2 : nv β 2 = nv α1 2 := nv_le H1.1 (by omega)
    have s3 : nv β 3 = nv α1 3 := nv_le H1.1 (by omega)
    have s4 : nv β 4 = nv α1 4 := nv_le H1.1 (by omega)
    obtain ⟨c0, c1, c2, c3⟩ := f2
    obtain ⟨α', Ha, hm⟩ := hd_gpM (q := kh_makeBill_a54) (n := 0) (by decide +kernel) hx H1 (by decide +kernel) hxa hf
    have hfr := H1.2.2.2.2.2.2.2.2.2.2.1
    have m0 : nv α' 0 = nv β 0 := hm 0 0 rfl
    have m1 : nv α' 1 = nv β 1 := hm 1 1 rfl
    have m2 : nv α' 2 = nv β 2 := hm 2 2 rfl
    have m3 : nv α' 3 = nv β 3 := hm 3 3 rfl
    have m4 : nv α' 4 = nv β 31 := hm 4 31 rfl
    have e6 := congrFun (fr_row hfr 556 (by decide +kernel)) (nv xs 2).toNat
    refine ih.1 _ _ _ _ Ha ?_ ?_
    · rw [e6]; exact hp
    · omega
  · obtain ⟨f1, f2, f3, f4, f5⟩ := as_fx H1
    simp only [kh_makeBill_b54_2, fx_env, fx_c, fx_ne, fx_hf, wl_S, Nat.zero_add, Nat.reduceAdd, Nat.reduceDiv, Nat.reduceMod, List.getElem?_cons_zero, List.getElem?_cons_succ, if_true, and_true, true_and] at f1 f2 f3 f4 f5
    have fe0 : nv β 0 = 209 := by omega
    have fe1 : nv β 1 = 1 := by omega
    have fe5 : nv β 5 = 3 := by omega
    have fe6 : nv β 6 = 3 := by omega
    have fe9 : nv β 9 = 165 := by omega
    have fe11 : nv β 11 = 1 := by omega
    have fe14 : nv β 14 = 0 := by omega
    have fe15 : nv β 15 = 13 := by omega
    have fe16 : nv β 16 = 0 := by omega
    have fe17 : nv β 17 = 557 := by omega
    have fe18 : nv β 18 = 3 := by omega
    have fe20 : nv β 20 = 558 := by omega
    have fe21 : nv β 21 = 165 := by omega
    have fe22 : nv β 22 = 166 := by omega
    have fe24 : nv β 24 = 9 := by omega
    try simp only [fe0, fe1, fe5, fe6, fe9, fe11, fe14, fe15, fe16, fe17, fe18, fe20, fe21, fe22, fe24, Int.reduceToNat] at f2 f3 f4 f5
    have s0 : nv β 0 = nv α1 0 := nv_le H1.1 (by omega)
    have s1 : nv β 1 = nv α1 1 := nv_le H1.1 (by omega)
    have s2 : nv β 2 = nv α1 2 := nv_le H1.1 (by omega)
    have s3 : nv β 3 = nv α1 3 := nv_le H1.1 (by omega)
    have s4 : nv β 4 = nv α1 4 := nv_le H1.1 (by omega)
    obtain ⟨c0, c1, c2, c3⟩ := f2
    obtain ⟨α', Ha, hm⟩ := hd_gpM (q := kh_makeBill_a54) (n := 0) (by decide +kernel) hx H1 (by decide +kernel) hxa hf
    have hfr := H1.2.2.2.2.2.2.2.2.2.2.1
    have m0 : nv α' 0 = nv β 0 := hm 0 0 rfl
    have m1 : nv α' 1 = nv β 1 := hm 1 1 rfl
    have m2 : nv α' 2 = nv β 2 := hm 2 2 rfl
    have m3 : nv α' 3 = nv β 3 := hm 3 3 rfl
    have m4 : nv α' 4 = nv β 27 := hm 4 27 rfl
    have e6 := congrFun (fr_row hfr 556 (by decide +kernel)) (nv xs 2).toNat
    refine ih.1 _ _ _ _ Ha ?_ ?_
    · rw [e6]; exact hp
    · omega
set_option maxHeartbeats 16000000 in
set_option maxRecDepth 8000 in
theorem kh_makeBill_h174 {l : Launch} {D : va_G} {tc : Nat → ClassId} {ad : Nat → Nat} {kd : Nat → Nat × Nat} {N : Nat} {sm : Nat → Nat} {xs : List av_X} {S : fw_S} {p : Program} {e : Env} {s : State} {m : MethodId} {args : Array Value} {below : List Frame} {meth : Method} {c : Code} {sz : Nat} {lvE : List (Nat × Value)} (G : hd_C wd_ff2 wd_fl2 kh_makeBill [kh_933, kh_934, kh_941, kh_942, kh_947, kh_944, kh_948, kh_949, kh_954, kh_951, kh_955, kh_935, kh_940, kh_937, kh_956, kh_958] kh_makeBill_y l D tc ad kd N sm xs p s m args meth c sz) (H0 : as_in ad sm wd_fl2 xs S kh_makeBill.2.2.2.2.2.1 xs (hd_0 kh_makeBill) lvE [] S) {k : Nat} (ih : kh_makeBill_I l D tc ad kd N sm xs S p e s m args below meth c sz k) : (∀ (α : List av_X) (lv : List (Nat × Value)) (st : List Value) (S1 : fw_S), as_in ad sm wd_fl2 xs S kh_makeBill.2.2.2.2.2.1 α kh_makeBill_a174.2.2.1 lv st S1 → (1 ≤ nv α 5 ∧ nv α 5 ≤ 34) → 0 < k + 1 → hd_W wd_fl2 kh_makeBill kh_makeBill_y l D tc ad kd N sm xs S p e s m args below meth c sz 174 lv st S1 0) := by
  have hx : xs.length = 3 := by rw [H0.2.1.1]; rfl
  intro α lv st S1 H hp hk
  have bp := (en_nv (i := 5) H.2.1 rfl).2
  change 1 ≤ nv α 5 ∧ nv α 5 ≤ 35 at bp
  replace H := as_clamp (i := 5) (lo := 1) (hi := 34) H rfl rfl (by exact hp.1) (by exact hp.2) (by decide)
  obtain ⟨α1, hle, Hr⟩ := as_recM (pl := []) [((214, 214), (0, 0, 0)), ((214, 214), (2, 2, 0)), ((214, 214), (3, 3, 0)), ((214, 214), (5, 5, 0)), ((216, 555), (5, 5, 0)), ((216, 555), (7, 7, 0)), ((556, 556), (0, 9, 1)), ((559, 559), (0, 9, 1))] (by decide +kernel) H
  have hf := H.2.2.2.2.2.2.2.2.2.2.1
  have hl1 : α1.length = 7 := by rw [Hr.2.1.1]; rfl
  have hl0 : α.length = 7 := by rw [H.2.1.1]; rfl
  have hxa : al_le xs α1 := H.1.trans hle
  obtain ⟨g1, -, g3, g4, -⟩ := as_fx Hr
  have g0 : (209 ≤ nv α1 0 ∧ nv α1 0 ≤ 209) ∧ (1 ≤ nv α1 1 ∧ nv α1 1 ≤ 1) ∧ (0 ≤ nv α1 2 ∧ nv α1 2 ≤ 9) ∧ (216 ≤ nv α1 3 ∧ nv α1 3 ≤ 555) ∧ (3 ≤ nv α1 4 ∧ nv α1 4 ≤ 3) ∧ (1 ≤ nv α1 5 ∧ nv α1 5 ≤ 34) ∧ (556 ≤ nv α1 6 ∧ nv α1 6 ≤ 556) ∧ True := by
    refine ⟨by have h := (en_nv (i := 0) Hr.2.1 rfl).2; exact h, by have h := (en_nv (i := 1) Hr.2.1 rfl).2; exact h, by have h := (en_nv (i := 2) Hr.2.1 rfl).2; exact h, by have h := (en_nv (i := 3) Hr.2.1 rfl).2; exact h, by have h := (en_nv (i := 4) Hr.2.1 rfl).2; exact h, by have h := (en_nv (i := 5) Hr.2.1 rfl).2; exact h, by have h := (en_nv (i := 6) Hr.2.1 rfl).2; exact h, trivial⟩
  have r0 : nv α1 0 = nv α 0 := nv_le hle (by omega)
  have r1 : nv α1 1 = nv α 1 := nv_le hle (by omega)
  have r2 : nv α1 2 = nv α 2 := nv_le hle (by omega)
  have r3 : nv α1 3 = nv α 3 := nv_le hle (by omega)
  have r4 : nv α1 4 = nv α 4 := nv_le hle (by omega)
  have r5 : nv α1 5 = nv α 5 := nv_le hle (by omega)
  have r6 : nv α1 6 = nv α 6 := nv_le hle (by omega)
  refine hd_segM G (na := 7) (fuel := 600) (first := true) (Bs := [kh_makeBill_b174_0]) (by decide +kernel) hl1 Hr ?_
  intro q hq β lv' st' S' H1
  simp only [List.mem_cons, List.not_mem_nil, or_false] at hq
  rcases hq with rfl
  · obtain ⟨f1, f2, f3, f4, f5⟩ := as_fx H1
    simp only [kh_makeBill_b174_0, fx_env, fx_c, fx_ne, fx_hf, wl_S, Nat.zero_add, Nat.reduceAdd, Nat.reduceDiv, Nat.reduceMod, List.getElem?_cons_zero, List.getElem?_cons_succ, if_true, and_true, true_and] at f1 f2 f3 f4 f5
    have fe0 : nv β 0 = 209 := by omega
    have fe1 : nv β 1 = 1 := by omega
    have fe4 : nv β 4 = 3 := by omega
    have fe6 : nv β 6 = 556 := by omega
    try simp only [fe0, fe1, fe4, fe6, Int.reduceToNat] at f2 f3 f4 f5
    have s0 : nv β 0 = nv α1 0 := nv_le H1.1 (by omega)
    have s1 : nv β 1 = nv α1 1 := nv_le H1.1 (by omega)
    have s2 : nv β 2 = nv α1 2 := nv_le H1.1 (by omega)
    have s3 : nv β 3 = nv α1 3 := nv_le H1.1 (by omega)
    have s4 : nv β 4 = nv α1 4 := nv_le H1.1 (by omega)
    have s5 : nv β 5 = nv α1 5 := nv_le H1.1 (by omega)
    have s6 : nv β 6 = nv α1 6 := nv_le H1.1 (by omega)
    exact hd_run G (ss := []) (fuel := 20) (by decide +kernel) (as_backM H1 (by decide +kernel) hxa hf)
set_option maxHeartbeats 16000000 in
set_option maxRecDepth 8000 in
theorem kh_makeBill_ok : ct_ok wd_fl2 kh_makeBill := ct_hand (ff := wd_ff2) (y := kh_makeBill_y) (Cs := [kh_933, kh_934, kh_941, kh_942, kh_947, kh_944, kh_948, kh_949, kh_954, kh_951, kh_955, kh_935, kh_940, kh_937, kh_956, kh_958]) wd_fl2_ok rfl (List.forall_mem_cons.mpr ⟨kh_933_ok, (List.forall_mem_cons.mpr ⟨kh_934_ok, (List.forall_mem_cons.mpr ⟨kh_941_ok, (List.forall_mem_cons.mpr ⟨kh_942_ok, (List.forall_mem_cons.mpr ⟨kh_947_ok, (List.forall_mem_cons.mpr ⟨kh_944_ok, (List.forall_mem_cons.mpr ⟨kh_948_ok, (List.forall_mem_cons.mpr ⟨kh_949_ok, (List.forall_mem_cons.mpr ⟨kh_954_ok, (List.forall_mem_cons.mpr ⟨kh_951_ok, (List.forall_mem_cons.mpr ⟨kh_955_ok, (List.forall_mem_cons.mpr ⟨kh_935_ok, (List.forall_mem_cons.mpr ⟨kh_940_ok, (List.forall_mem_cons.mpr ⟨kh_937_ok, (List.forall_mem_cons.mpr ⟨kh_956_ok, (List.forall_mem_cons.mpr ⟨kh_958_ok, (List.forall_mem_nil _)⟩)⟩)⟩)⟩)⟩)⟩)⟩)⟩)⟩)⟩)⟩)⟩)⟩)⟩)⟩)⟩) (by decide +kernel) (fun l D tc ad kd N sm xs S p e s m args below meth c sz lv G H0 => by
  have hx : xs.length = 3 := by rw [H0.2.1.1]; rfl
  have hP : ∀ (k : Nat), kh_makeBill_I l D tc ad kd N sm xs S p e s m args below meth c sz k := by
    intro k
    induction k with
    | zero => exact ⟨fun _ _ _ _ _ _ h => absurd h (Nat.not_lt_zero _), fun _ _ _ _ _ _ h => absurd h (Nat.not_lt_zero _), trivial⟩
    | succ k ih => exact ⟨kh_makeBill_h54 G H0 ih, kh_makeBill_h174 G H0 ih, trivial⟩
  obtain ⟨α1, hle, Hr⟩ := as_recM (pl := []) [((216, 555), (0, 0, 0)), ((216, 555), (4, 4, 0)), ((216, 555), (6, 6, 0))] (by decide +kernel) H0
  have hf := H0.2.2.2.2.2.2.2.2.2.2.1
  have hl1 : α1.length = 3 := by rw [Hr.2.1.1]; rfl
  have hl0 : xs.length = 3 := by rw [H0.2.1.1]; rfl
  have hxa : al_le xs α1 := H0.1.trans hle
  obtain ⟨g1, -, g3, g4, -⟩ := as_fx Hr
  have g0 : (209 ≤ nv α1 0 ∧ nv α1 0 ≤ 209) ∧ (1 ≤ nv α1 1 ∧ nv α1 1 ≤ 1) ∧ (0 ≤ nv α1 2 ∧ nv α1 2 ≤ 9) ∧ True := by
    refine ⟨by have h := (en_nv (i := 0) Hr.2.1 rfl).2; exact h, by have h := (en_nv (i := 1) Hr.2.1 rfl).2; exact h, by have h := (en_nv (i := 2) Hr.2.1 rfl).2; exact h, trivial⟩
  have r0 : nv α1 0 = nv xs 0 := nv_le hle (by omega)
  have r1 : nv α1 1 = nv xs 1 := nv_le hle (by omega)
  have r2 : nv α1 2 = nv xs 2 := nv_le hle (by omega)
  refine hd_segM G (na := 3) (fuel := 600) (first := true) (Bs := [kh_makeBill_b0_0, kh_makeBill_b0_1]) (by decide +kernel) hl1 Hr ?_
  intro q hq β lv' st' S' H1
  simp only [List.mem_cons, List.not_mem_nil, or_false] at hq
  rcases hq with rfl | rfl
  · obtain ⟨f1, f2, f3, f4, f5⟩ := as_fx H1
    simp only [kh_makeBill_b0_0, fx_env, fx_c, fx_ne, fx_hf, wl_S, Nat.zero_add, Nat.reduceAdd, Nat.reduceDiv, Nat.reduceMod, List.getElem?_cons_zero, List.getElem?_cons_succ, if_true, and_true, true_and] at f1 f2 f3 f4 f5
    have fe0 : nv β 0 = 209 := by omega
    have fe1 : nv β 1 = 1 := by omega
    have fe3 : nv β 3 = 556 := by omega
    have fe5 : nv β 5 = 34 := by omega
    have fe6 : nv β 6 = 556 := by omega
    have fe8 : nv β 8 = 0 := by omega
    have fe9 : nv β 9 = 0 := by omega
    have fe12 : nv β 12 = 4 := by omega
    have fe14 : nv β 14 = 6 := by omega
    have fe16 : nv β 16 = 0 := by omega
    try simp only [fe0, fe1, fe3, fe5, fe6, fe8, fe9, fe12, fe14, fe16, Int.reduceToNat] at f2 f3 f4 f5
    have s0 : nv β 0 = nv α1 0 := nv_le H1.1 (by omega)
    have s1 : nv β 1 = nv α1 1 := nv_le H1.1 (by omega)
    have s2 : nv β 2 = nv α1 2 := nv_le H1.1 (by omega)
    obtain ⟨c0, c1, c2⟩ := f2
    obtain ⟨α', Ha, hm⟩ := hd_gpM (q := kh_makeBill_a54) (n := 0) (by decide +kernel) hx H1 (by decide +kernel) hxa hf
    have hfr := H1.2.2.2.2.2.2.2.2.2.2.1
    have m0 : nv α' 0 = nv β 0 := hm 0 0 rfl
    have m1 : nv α' 1 = nv β 1 := hm 1 1 rfl
    have m2 : nv α' 2 = nv β 2 := hm 2 2 rfl
    have m3 : nv α' 3 = nv β 7 := hm 3 7 rfl
    have m4 : nv α' 4 = nv β 16 := hm 4 16 rfl
    have o2 := old_0 c2 rfl
    have e6 := congrFun (fr_row hfr 556 (by decide +kernel)) (nv xs 2).toNat
    refine (hP _).1 _ _ _ _ Ha ?_ (Nat.lt_succ_self _)
    · rw [e6, show nv xs 2 = nv β 2 by omega]
      omega
  · obtain ⟨f1, f2, f3, f4, f5⟩ := as_fx H1
    simp only [kh_makeBill_b0_1, fx_env, fx_c, fx_ne, fx_hf, wl_S, Nat.zero_add, Nat.reduceAdd, Nat.reduceDiv, Nat.reduceMod, List.getElem?_cons_zero, List.getElem?_cons_succ, if_true, and_true, true_and] at f1 f2 f3 f4 f5
    have fe0 : nv β 0 = 209 := by omega
    have fe1 : nv β 1 = 1 := by omega
    have fe3 : nv β 3 = 556 := by omega
    have fe4 : nv β 4 = 34 := by omega
    have fe5 : nv β 5 = 34 := by omega
    try simp only [fe0, fe1, fe3, fe4, fe5, Int.reduceToNat] at f2 f3 f4 f5
    have s0 : nv β 0 = nv α1 0 := nv_le H1.1 (by omega)
    have s1 : nv β 1 = nv α1 1 := nv_le H1.1 (by omega)
    have s2 : nv β 2 = nv α1 2 := nv_le H1.1 (by omega)
    obtain ⟨c0, c1⟩ := f2
    exact hd_run G (ss := []) (fuel := 20) (by decide +kernel) (as_backM H1 (by decide +kernel) hxa hf))
