set_option maxRecDepth 20000 in
theorem ggX7_init_X4_init : GoodIn wsX7_init wsX4_init := goodIn_r _ [26, 27, 2, 3, 28, 29, 30, 31, 32, 33, 34, 35, 36, 37, 38, 39, 40, 41, 42, 43, 44, 45, 90, 91, 92, 93, 94, 95, 96, 97, 98, 99, 100, 101, 121, 122, 123, 124, 125, 126] (by decide +kernel) (by decide +kernel)
set_option maxRecDepth 20000 in
theorem gX7_init_X4_init : GoodIn wsX7_init (wsX4_init) := ggX7_init_X4_init
set_option maxRecDepth 20000 in
theorem ggX7_init_X2_init : GoodIn wsX7_init wsX2_init := goodIn_r _ [48, 49, 2, 3, 50, 51, 5, 6, 52, 25, 26, 27, 28, 29, 30, 31, 32, 33, 34, 35, 36, 37, 38, 39, 40, 41, 42, 43, 44, 45, 111, 112, 90, 91, 92, 93, 94, 95, 96, 97, 98, 99, 100, 101, 121, 122, 123, 124, 125, 126] (by decide +kernel) (by decide +kernel)
set_option maxRecDepth 20000 in
theorem gX7_init_X2_init : GoodIn wsX7_init (wsX2_init) := ggX7_init_X2_init
set_option maxRecDepth 20000 in
theorem ggX7_init_X3_init : GoodIn wsX7_init wsX3_init := goodIn_r _ [55, 56, 2, 3, 57, 19, 20, 58, 59, 60, 61, 62, 63, 64, 65, 66, 67, 68, 69, 70, 71, 72, 73, 74, 75, 76, 77, 78, 79, 80, 81, 82, 83, 84, 85, 86, 87, 30, 88, 117, 118, 119, 120, 113, 114, 115, 116, 127, 128] (by decide +kernel) (by decide +kernel)
set_option maxRecDepth 20000 in
theorem gX7_init_X3_init : GoodIn wsX7_init (wsX3_init) := ggX7_init_X3_init
set_option maxRecDepth 20000 in
theorem ggX7_init_J4_init_da8c8 : GoodIn wsX7_init wsJ4_init_da8c8 := goodIn_r _ [65, 66, 67, 68, 69, 70, 2, 3, 71, 72, 73, 74, 75, 76, 77, 78, 79, 80, 81, 82, 117, 118, 119, 120] (by decide +kernel) (by decide +kernel)
set_option maxRecDepth 20000 in
theorem gX7_init_J4_init_da8c8 : GoodIn wsX7_init (wsJ4_init_da8c8) := ggX7_init_J4_init_da8c8
set_option maxRecDepth 20000 in
theorem ggX7_addTruck_X7_change : GoodIn wsX7_addTruck wsX7_change := goodIn_ca (goodIn_ca (goodIn_ca (goodIn_ca (goodIn_ca (goodIn_ca (goodIn_r _ [6, 7, 8, 9, 10, 11, 12, 13, 14, 15, 16, 17, 18, 19, 20, 21, 22, 23, 24, 25, 26, 27, 28, 29, 30, 31, 32, 33, 34, 35, 36, 37, 38, 39, 40, 41, 42, 43, 44, 45, 46, 47, 48, 49, 50, 51, 52, 53, 54, 55, 56, 57, 58, 59, 60, 61, 62, 63, 64, 65, 66, 5, 67, 68, 69, 70, 71, 72, 73, 74, 75, 76, 77, 78, 79, 80, 81, 82, 83, 84, 85, 86, 87, 88, 89, 90, 91, 92, 93, 94, 95, 96, 97, 98, 99, 100, 101, 102, 103, 104, 105, 106, 107, 108, 109, 110, 111, 112, 113, 114, 115, 116, 117, 118, 119, 120, 121, 122, 123, 124, 125, 126, 127, 128, 129, 130, 131, 132, 133, 134, 135, 136, 137, 138, 139, 140, 141, 142, 143, 144, 145, 146, 147, 148, 149, 150, 151, 152, 153, 154, 155, 156, 157, 158, 159, 160, 161, 162, 163, 164, 165, 166, 167, 168, 169, 170, 171, 172, 173, 174, 175, 176, 177, 178, 179, 180, 181, 182, 183, 184, 185, 186, 187, 188, 189, 190, 191, 192, 193, 194, 195, 196, 197, 198, 199, 200, 201, 202, 203, 204, 205, 206, 207, 208, 209, 210, 211, 212, 213, 214, 215, 216, 217, 218, 219, 220, 221, 222, 223, 224, 225, 226, 227, 228, 229, 230, 231, 232, 233, 234, 235, 236, 237, 238] (by decide +kernel) (by decide +kernel)) (goodIn_sub (fun _ h => List.mem_cons_of_mem _ (List.mem_append_left _ (List.mem_append_left _ (List.mem_append_left _ (List.mem_append_left _ (List.mem_append_left _ (List.mem_append_right _ h))))))) (by decide +kernel))) (goodIn_sub (fun _ h => List.mem_cons_of_mem _ (List.mem_append_left _ (List.mem_append_left _ (List.mem_append_left _ (List.mem_append_left _ (List.mem_append_right _ h)))))) (by decide +kernel))) (goodIn_sub (fun _ h => List.mem_cons_of_mem _ (List.mem_append_left _ (List.mem_append_left _ (List.mem_append_left _ (List.mem_append_right _ h))))) (by decide +kernel))) (goodIn_sub (fun _ h => List.mem_cons_of_mem _ (List.mem_append_left _ (List.mem_append_left _ (List.mem_append_right _ h)))) (by decide +kernel))) (goodIn_sub (fun _ h => List.mem_cons_of_mem _ (List.mem_append_left _ (List.mem_append_right _ h))) (by decide +kernel))) (goodIn_sub (fun _ h => List.mem_cons_of_mem _ (List.mem_append_right _ h)) (by decide +kernel))
set_option maxRecDepth 20000 in
theorem gX7_addTruck_X7_change : GoodIn wsX7_addTruck (wsV RX7 56 RX7 yX7_change wsX7_change) := goodIn_app (goodIn_of _ (by decide +kernel)) ggX7_addTruck_X7_change
set_option maxRecDepth 20000 in
theorem ggX7_addStock_X7_change : GoodIn wsX7_addStock wsX7_change := goodIn_ca (goodIn_ca (goodIn_ca (goodIn_ca (goodIn_ca (goodIn_ca (goodIn_r _ [6, 7, 8, 9, 10, 11, 12, 13, 14, 15, 16, 17, 18, 19, 20, 21, 22, 23, 24, 25, 26, 27, 28, 29, 30, 31, 32, 33, 34, 35, 36, 37, 38, 39, 40, 41, 42, 43, 44, 45, 46, 47, 48, 49, 50, 51, 52, 53, 54, 55, 56, 57, 58, 59, 60, 61, 62, 63, 64, 65, 66, 5, 67, 68, 69, 70, 71, 72, 73, 74, 75, 76, 77, 78, 79, 80, 81, 82, 83, 84, 85, 86, 87, 88, 89, 90, 91, 92, 93, 94, 95, 96, 97, 98, 99, 100, 101, 102, 103, 104, 105, 106, 107, 108, 109, 110, 111, 112, 113, 114, 115, 116, 117, 118, 119, 120, 121, 122, 123, 124, 125, 126, 127, 128, 129, 130, 131, 132, 133, 134, 135, 136, 137, 138, 139, 140, 141, 142, 143, 144, 145, 146, 147, 148, 149, 150, 151, 152, 153, 154, 155, 156, 157, 158, 159, 160, 161, 162, 163, 164, 165, 166, 167, 168, 169, 170, 171, 172, 173, 174, 175, 176, 177, 178, 179, 180, 181, 182, 183, 184, 185, 186, 187, 188, 189, 190, 191, 192, 193, 194, 195, 196, 197, 198, 199, 200, 201, 202, 203, 204, 205, 206, 207, 208, 209, 210, 211, 212, 213, 214, 215, 216, 217, 218, 219, 220, 221, 222, 223, 224, 225, 226, 227, 228, 229, 230, 231, 232, 233, 234, 235, 236, 237, 238] (by decide +kernel) (by decide +kernel)) (goodIn_sub (fun _ h => List.mem_cons_of_mem _ (List.mem_append_left _ (List.mem_append_left _ (List.mem_append_left _ (List.mem_append_left _ (List.mem_append_left _ (List.mem_append_right _ h))))))) (by decide +kernel))) (goodIn_sub (fun _ h => List.mem_cons_of_mem _ (List.mem_append_left _ (List.mem_append_left _ (List.mem_append_left _ (List.mem_append_left _ (List.mem_append_right _ h)))))) (by decide +kernel))) (goodIn_sub (fun _ h => List.mem_cons_of_mem _ (List.mem_append_left _ (List.mem_append_left _ (List.mem_append_left _ (List.mem_append_right _ h))))) (by decide +kernel))) (goodIn_sub (fun _ h => List.mem_cons_of_mem _ (List.mem_append_left _ (List.mem_append_left _ (List.mem_append_right _ h)))) (by decide +kernel))) (goodIn_sub (fun _ h => List.mem_cons_of_mem _ (List.mem_append_left _ (List.mem_append_right _ h))) (by decide +kernel))) (goodIn_sub (fun _ h => List.mem_cons_of_mem _ (List.mem_append_right _ h)) (by decide +kernel))
set_option maxRecDepth 20000 in
theorem gX7_addStock_X7_change : GoodIn wsX7_addStock (wsV RX7 56 RX7 yX7_change wsX7_change) := goodIn_app (goodIn_of _ (by decide +kernel)) ggX7_addStock_X7_change
set_option maxRecDepth 20000 in
theorem ggX7_setPrice_X7_change : GoodIn wsX7_setPrice wsX7_change := goodIn_ca (goodIn_ca (goodIn_ca (goodIn_ca (goodIn_ca (goodIn_ca (goodIn_r _ [6, 7, 8, 9, 10, 11, 12, 13, 14, 15, 16, 17, 18, 19, 20, 21, 22, 23, 24, 25, 26, 27, 28, 29, 30, 31, 32, 33, 34, 35, 36, 37, 38, 39, 40, 41, 42, 43, 44, 45, 46, 47, 48, 49, 50, 51, 52, 53, 54, 55, 56, 57, 58, 59, 60, 61, 62, 63, 64, 65, 66, 5, 67, 68, 69, 70, 71, 72, 73, 74, 75, 76, 77, 78, 79, 80, 81, 82, 83, 84, 85, 86, 87, 88, 89, 90, 91, 92, 93, 94, 95, 96, 97, 98, 99, 100, 101, 102, 103, 104, 105, 106, 107, 108, 109, 110, 111, 112, 113, 114, 115, 116, 117, 118, 119, 120, 121, 122, 123, 124, 125, 126, 127, 128, 129, 130, 131, 132, 133, 134, 135, 136, 137, 138, 139, 140, 141, 142, 143, 144, 145, 146, 147, 148, 149, 150, 151, 152, 153, 154, 155, 156, 157, 158, 159, 160, 161, 162, 163, 164, 165, 166, 167, 168, 169, 170, 171, 172, 173, 174, 175, 176, 177, 178, 179, 180, 181, 182, 183, 184, 185, 186, 187, 188, 189, 190, 191, 192, 193, 194, 195, 196, 197, 198, 199, 200, 201, 202, 203, 204, 205, 206, 207, 208, 209, 210, 211, 212, 213, 214, 215, 216, 217, 218, 219, 220, 221, 222, 223, 224, 225, 226, 227, 228, 229, 230, 231, 232, 233, 234, 235, 236, 237, 238] (by decide +kernel) (by decide +kernel)) (goodIn_sub (fun _ h => List.mem_cons_of_mem _ (List.mem_append_left _ (List.mem_append_left _ (List.mem_append_left _ (List.mem_append_left _ (List.mem_append_left _ (List.mem_append_right _ h))))))) (by decide +kernel))) (goodIn_sub (fun _ h => List.mem_cons_of_mem _ (List.mem_append_left _ (List.mem_append_left _ (List.mem_append_left _ (List.mem_append_left _ (List.mem_append_right _ h)))))) (by decide +kernel))) (goodIn_sub (fun _ h => List.mem_cons_of_mem _ (List.mem_append_left _ (List.mem_append_left _ (List.mem_append_left _ (List.mem_append_right _ h))))) (by decide +kernel))) (goodIn_sub (fun _ h => List.mem_cons_of_mem _ (List.mem_append_left _ (List.mem_append_left _ (List.mem_append_right _ h)))) (by decide +kernel))) (goodIn_sub (fun _ h => List.mem_cons_of_mem _ (List.mem_append_left _ (List.mem_append_right _ h))) (by decide +kernel))) (goodIn_sub (fun _ h => List.mem_cons_of_mem _ (List.mem_append_right _ h)) (by decide +kernel))
set_option maxRecDepth 20000 in
theorem gX7_setPrice_X7_change : GoodIn wsX7_setPrice (wsV RX7 56 RX7 yX7_change wsX7_change) := goodIn_app (goodIn_of _ (by decide +kernel)) ggX7_setPrice_X7_change
set_option maxRecDepth 20000 in
theorem ggX7_grantPermit_X7_change : GoodIn wsX7_grantPermit wsX7_change := goodIn_ca (goodIn_ca (goodIn_ca (goodIn_ca (goodIn_ca (goodIn_ca (goodIn_r _ [6, 7, 8, 9, 10, 11, 12, 13, 14, 15, 16, 17, 18, 19, 20, 21, 22, 23, 24, 25, 26, 27, 28, 29, 30, 31, 32, 33, 34, 35, 36, 37, 38, 39, 40, 41, 42, 43, 44, 45, 46, 47, 48, 49, 50, 51, 52, 53, 54, 55, 56, 57, 58, 59, 60, 61, 62, 63, 64, 65, 66, 5, 67, 68, 69, 70, 71, 72, 73, 74, 75, 76, 77, 78, 79, 80, 81, 82, 83, 84, 85, 86, 87, 88, 89, 90, 91, 92, 93, 94, 95, 96, 97, 98, 99, 100, 101, 102, 103, 104, 105, 106, 107, 108, 109, 110, 111, 112, 113, 114, 115, 116, 117, 118, 119, 120, 121, 122, 123, 124, 125, 126, 127, 128, 129, 130, 131, 132, 133, 134, 135, 136, 137, 138, 139, 140, 141, 142, 143, 144, 145, 146, 147, 148, 149, 150, 151, 152, 153, 154, 155, 156, 157, 158, 159, 160, 161, 162, 163, 164, 165, 166, 167, 168, 169, 170, 171, 172, 173, 174, 175, 176, 177, 178, 179, 180, 181, 182, 183, 184, 185, 186, 187, 188, 189, 190, 191, 192, 193, 194, 195, 196, 197, 198, 199, 200, 201, 202, 203, 204, 205, 206, 207, 208, 209, 210, 211, 212, 213, 214, 215, 216, 217, 218, 219, 220, 221, 222, 223, 224, 225, 226, 227, 228, 229, 230, 231, 232, 233, 234, 235, 236, 237, 238] (by decide +kernel) (by decide +kernel)) (goodIn_sub (fun _ h => List.mem_cons_of_mem _ (List.mem_append_left _ (List.mem_append_left _ (List.mem_append_left _ (List.mem_append_left _ (List.mem_append_left _ (List.mem_append_right _ h))))))) (by decide +kernel))) (goodIn_sub (fun _ h => List.mem_cons_of_mem _ (List.mem_append_left _ (List.mem_append_left _ (List.mem_append_left _ (List.mem_append_left _ (List.mem_append_right _ h)))))) (by decide +kernel))) (goodIn_sub (fun _ h => List.mem_cons_of_mem _ (List.mem_append_left _ (List.mem_append_left _ (List.mem_append_left _ (List.mem_append_right _ h))))) (by decide +kernel))) (goodIn_sub (fun _ h => List.mem_cons_of_mem _ (List.mem_append_left _ (List.mem_append_left _ (List.mem_append_right _ h)))) (by decide +kernel))) (goodIn_sub (fun _ h => List.mem_cons_of_mem _ (List.mem_append_left _ (List.mem_append_right _ h))) (by decide +kernel))) (goodIn_sub (fun _ h => List.mem_cons_of_mem _ (List.mem_append_right _ h)) (by decide +kernel))
set_option maxRecDepth 20000 in
theorem gX7_grantPermit_X7_change : GoodIn wsX7_grantPermit (wsV RX7 56 RX7 yX7_change wsX7_change) := goodIn_app (goodIn_of _ (by decide +kernel)) ggX7_grantPermit_X7_change
set_option maxRecDepth 20000 in
theorem ggX7_revokePermit_X7_change : GoodIn wsX7_revokePermit wsX7_change := goodIn_ca (goodIn_ca (goodIn_ca (goodIn_ca (goodIn_ca (goodIn_ca (goodIn_r _ [6, 7, 8, 9, 10, 11, 12, 13, 14, 15, 16, 17, 18, 19, 20, 21, 22, 23, 24, 25, 26, 27, 28, 29, 30, 31, 32, 33, 34, 35, 36, 37, 38, 39, 40, 41, 42, 43, 44, 45, 46, 47, 48, 49, 50, 51, 52, 53, 54, 55, 56, 57, 58, 59, 60, 61, 62, 63, 64, 65, 66, 5, 67, 68, 69, 70, 71, 72, 73, 74, 75, 76, 77, 78, 79, 80, 81, 82, 83, 84, 85, 86, 87, 88, 89, 90, 91, 92, 93, 94, 95, 96, 97, 98, 99, 100, 101, 102, 103, 104, 105, 106, 107, 108, 109, 110, 111, 112, 113, 114, 115, 116, 117, 118, 119, 120, 121, 122, 123, 124, 125, 126, 127, 128, 129, 130, 131, 132, 133, 134, 135, 136, 137, 138, 139, 140, 141, 142, 143, 144, 145, 146, 147, 148, 149, 150, 151, 152, 153, 154, 155, 156, 157, 158, 159, 160, 161, 162, 163, 164, 165, 166, 167, 168, 169, 170, 171, 172, 173, 174, 175, 176, 177, 178, 179, 180, 181, 182, 183, 184, 185, 186, 187, 188, 189, 190, 191, 192, 193, 194, 195, 196, 197, 198, 199, 200, 201, 202, 203, 204, 205, 206, 207, 208, 209, 210, 211, 212, 213, 214, 215, 216, 217, 218, 219, 220, 221, 222, 223, 224, 225, 226, 227, 228, 229, 230, 231, 232, 233, 234, 235, 236, 237, 238] (by decide +kernel) (by decide +kernel)) (goodIn_sub (fun _ h => List.mem_cons_of_mem _ (List.mem_append_left _ (List.mem_append_left _ (List.mem_append_left _ (List.mem_append_left _ (List.mem_append_left _ (List.mem_append_right _ h))))))) (by decide +kernel))) (goodIn_sub (fun _ h => List.mem_cons_of_mem _ (List.mem_append_left _ (List.mem_append_left _ (List.mem_append_left _ (List.mem_append_left _ (List.mem_append_right _ h)))))) (by decide +kernel))) (goodIn_sub (fun _ h => List.mem_cons_of_mem _ (List.mem_append_left _ (List.mem_append_left _ (List.mem_append_left _ (List.mem_append_right _ h))))) (by decide +kernel))) (goodIn_sub (fun _ h => List.mem_cons_of_mem _ (List.mem_append_left _ (List.mem_append_left _ (List.mem_append_right _ h)))) (by decide +kernel))) (goodIn_sub (fun _ h => List.mem_cons_of_mem _ (List.mem_append_left _ (List.mem_append_right _ h))) (by decide +kernel))) (goodIn_sub (fun _ h => List.mem_cons_of_mem _ (List.mem_append_right _ h)) (by decide +kernel))
set_option maxRecDepth 20000 in
theorem gX7_revokePermit_X7_change : GoodIn wsX7_revokePermit (wsV RX7 56 RX7 yX7_change wsX7_change) := goodIn_app (goodIn_of _ (by decide +kernel)) ggX7_revokePermit_X7_change
set_option maxRecDepth 20000 in
theorem ggX7_assign_X7_change : GoodIn wsX7_assign wsX7_change := goodIn_ca (goodIn_ca (goodIn_ca (goodIn_ca (goodIn_ca (goodIn_ca (goodIn_r _ [6, 7, 8, 9, 10, 11, 12, 13, 14, 15, 16, 17, 18, 19, 20, 21, 22, 23, 24, 25, 26, 27, 28, 29, 30, 31, 32, 33, 34, 35, 36, 37, 38, 39, 40, 41, 42, 43, 44, 45, 46, 47, 48, 49, 50, 51, 52, 53, 54, 55, 56, 57, 58, 59, 60, 61, 62, 63, 64, 65, 66, 5, 67, 68, 69, 70, 71, 72, 73, 74, 75, 76, 77, 78, 79, 80, 81, 82, 83, 84, 85, 86, 87, 88, 89, 90, 91, 92, 93, 94, 95, 96, 97, 98, 99, 100, 101, 102, 103, 104, 105, 106, 107, 108, 109, 110, 111, 112, 113, 114, 115, 116, 117, 118, 119, 120, 121, 122, 123, 124, 125, 126, 127, 128, 129, 130, 131, 132, 133, 134, 135, 136, 137, 138, 139, 140, 141, 142, 143, 144, 145, 146, 147, 148, 149, 150, 151, 152, 153, 154, 155, 156, 157, 158, 159, 160, 161, 162, 163, 164, 165, 166, 167, 168, 169, 170, 171, 172, 173, 174, 175, 176, 177, 178, 179, 180, 181, 182, 183, 184, 185, 186, 187, 188, 189, 190, 191, 192, 193, 194, 195, 196, 197, 198, 199, 200, 201, 202, 203, 204, 205, 206, 207, 208, 209, 210, 211, 212, 213, 214, 215, 216, 217, 218, 219, 220, 221, 222, 223, 224, 225, 226, 227, 228, 229, 230, 231, 232, 233, 234, 235, 236, 237, 238] (by decide +kernel) (by decide +kernel)) (goodIn_sub (fun _ h => List.mem_cons_of_mem _ (List.mem_append_left _ (List.mem_append_left _ (List.mem_append_left _ (List.mem_append_left _ (List.mem_append_left _ (List.mem_append_right _ h))))))) (by decide +kernel))) (goodIn_sub (fun _ h => List.mem_cons_of_mem _ (List.mem_append_left _ (List.mem_append_left _ (List.mem_append_left _ (List.mem_append_left _ (List.mem_append_right _ h)))))) (by decide +kernel))) (goodIn_sub (fun _ h => List.mem_cons_of_mem _ (List.mem_append_left _ (List.mem_append_left _ (List.mem_append_left _ (List.mem_append_right _ h))))) (by decide +kernel))) (goodIn_sub (fun _ h => List.mem_cons_of_mem _ (List.mem_append_left _ (List.mem_append_left _ (List.mem_append_right _ h)))) (by decide +kernel))) (goodIn_sub (fun _ h => List.mem_cons_of_mem _ (List.mem_append_left _ (List.mem_append_right _ h))) (by decide +kernel))) (goodIn_sub (fun _ h => List.mem_cons_of_mem _ (List.mem_append_right _ h)) (by decide +kernel))
set_option maxRecDepth 20000 in
theorem gX7_assign_X7_change : GoodIn wsX7_assign (wsV RX7 56 RX7 yX7_change wsX7_change) := goodIn_app (goodIn_of _ (by decide +kernel)) ggX7_assign_X7_change
set_option maxRecDepth 20000 in
theorem ggX7_release_X7_change : GoodIn wsX7_release wsX7_change := goodIn_ca (goodIn_ca (goodIn_ca (goodIn_ca (goodIn_ca (goodIn_ca (goodIn_r _ [6, 7, 8, 9, 10, 11, 12, 13, 14, 15, 16, 17, 18, 19, 20, 21, 22, 23, 24, 25, 26, 27, 28, 29, 30, 31, 32, 33, 34, 35, 36, 37, 38, 39, 40, 41, 42, 43, 44, 45, 46, 47, 48, 49, 50, 51, 52, 53, 54, 55, 56, 57, 58, 59, 60, 61, 62, 63, 64, 65, 66, 5, 67, 68, 69, 70, 71, 72, 73, 74, 75, 76, 77, 78, 79, 80, 81, 82, 83, 84, 85, 86, 87, 88, 89, 90, 91, 92, 93, 94, 95, 96, 97, 98, 99, 100, 101, 102, 103, 104, 105, 106, 107, 108, 109, 110, 111, 112, 113, 114, 115, 116, 117, 118, 119, 120, 121, 122, 123, 124, 125, 126, 127, 128, 129, 130, 131, 132, 133, 134, 135, 136, 137, 138, 139, 140, 141, 142, 143, 144, 145, 146, 147, 148, 149, 150, 151, 152, 153, 154, 155, 156, 157, 158, 159, 160, 161, 162, 163, 164, 165, 166, 167, 168, 169, 170, 171, 172, 173, 174, 175, 176, 177, 178, 179, 180, 181, 182, 183, 184, 185, 186, 187, 188, 189, 190, 191, 192, 193, 194, 195, 196, 197, 198, 199, 200, 201, 202, 203, 204, 205, 206, 207, 208, 209, 210, 211, 212, 213, 214, 215, 216, 217, 218, 219, 220, 221, 222, 223, 224, 225, 226, 227, 228, 229, 230, 231, 232, 233, 234, 235, 236, 237, 238] (by decide +kernel) (by decide +kernel)) (goodIn_sub (fun _ h => List.mem_cons_of_mem _ (List.mem_append_left _ (List.mem_append_left _ (List.mem_append_left _ (List.mem_append_left _ (List.mem_append_left _ (List.mem_append_right _ h))))))) (by decide +kernel))) (goodIn_sub (fun _ h => List.mem_cons_of_mem _ (List.mem_append_left _ (List.mem_append_left _ (List.mem_append_left _ (List.mem_append_left _ (List.mem_append_right _ h)))))) (by decide +kernel))) (goodIn_sub (fun _ h => List.mem_cons_of_mem _ (List.mem_append_left _ (List.mem_append_left _ (List.mem_append_left _ (List.mem_append_right _ h))))) (by decide +kernel))) (goodIn_sub (fun _ h => List.mem_cons_of_mem _ (List.mem_append_left _ (List.mem_append_left _ (List.mem_append_right _ h)))) (by decide +kernel))) (goodIn_sub (fun _ h => List.mem_cons_of_mem _ (List.mem_append_left _ (List.mem_append_right _ h))) (by decide +kernel))) (goodIn_sub (fun _ h => List.mem_cons_of_mem _ (List.mem_append_right _ h)) (by decide +kernel))
set_option maxRecDepth 20000 in
theorem gX7_release_X7_change : GoodIn wsX7_release (wsV RX7 56 RX7 yX7_change wsX7_change) := goodIn_app (goodIn_of _ (by decide +kernel)) ggX7_release_X7_change
set_option maxRecDepth 20000 in
theorem ggX7_setWeather_X7_change : GoodIn wsX7_setWeather wsX7_change := goodIn_ca (goodIn_ca (goodIn_ca (goodIn_ca (goodIn_ca (goodIn_ca (goodIn_r _ [6, 7, 8, 9, 10, 11, 12, 13, 14, 15, 16, 17, 18, 19, 20, 21, 22, 23, 24, 25, 26, 27, 28, 29, 30, 31, 32, 33, 34, 35, 36, 37, 38, 39, 40, 41, 42, 43, 44, 45, 46, 47, 48, 49, 50, 51, 52, 53, 54, 55, 56, 57, 58, 59, 60, 61, 62, 63, 64, 65, 66, 5, 67, 68, 69, 70, 71, 72, 73, 74, 75, 76, 77, 78, 79, 80, 81, 82, 83, 84, 85, 86, 87, 88, 89, 90, 91, 92, 93, 94, 95, 96, 97, 98, 99, 100, 101, 102, 103, 104, 105, 106, 107, 108, 109, 110, 111, 112, 113, 114, 115, 116, 117, 118, 119, 120, 121, 122, 123, 124, 125, 126, 127, 128, 129, 130, 131, 132, 133, 134, 135, 136, 137, 138, 139, 140, 141, 142, 143, 144, 145, 146, 147, 148, 149, 150, 151, 152, 153, 154, 155, 156, 157, 158, 159, 160, 161, 162, 163, 164, 165, 166, 167, 168, 169, 170, 171, 172, 173, 174, 175, 176, 177, 178, 179, 180, 181, 182, 183, 184, 185, 186, 187, 188, 189, 190, 191, 192, 193, 194, 195, 196, 197, 198, 199, 200, 201, 202, 203, 204, 205, 206, 207, 208, 209, 210, 211, 212, 213, 214, 215, 216, 217, 218, 219, 220, 221, 222, 223, 224, 225, 226, 227, 228, 229, 230, 231, 232, 233, 234, 235, 236, 237, 238] (by decide +kernel) (by decide +kernel)) (goodIn_sub (fun _ h => List.mem_cons_of_mem _ (List.mem_append_left _ (List.mem_append_left _ (List.mem_append_left _ (List.mem_append_left _ (List.mem_append_left _ (List.mem_append_right _ h))))))) (by decide +kernel))) (goodIn_sub (fun _ h => List.mem_cons_of_mem _ (List.mem_append_left _ (List.mem_append_left _ (List.mem_append_left _ (List.mem_append_left _ (List.mem_append_right _ h)))))) (by decide +kernel))) (goodIn_sub (fun _ h => List.mem_cons_of_mem _ (List.mem_append_left _ (List.mem_append_left _ (List.mem_append_left _ (List.mem_append_right _ h))))) (by decide +kernel))) (goodIn_sub (fun _ h => List.mem_cons_of_mem _ (List.mem_append_left _ (List.mem_append_left _ (List.mem_append_right _ h)))) (by decide +kernel))) (goodIn_sub (fun _ h => List.mem_cons_of_mem _ (List.mem_append_left _ (List.mem_append_right _ h))) (by decide +kernel))) (goodIn_sub (fun _ h => List.mem_cons_of_mem _ (List.mem_append_right _ h)) (by decide +kernel))
set_option maxRecDepth 20000 in
theorem gX7_setWeather_X7_change : GoodIn wsX7_setWeather (wsV RX7 56 RX7 yX7_change wsX7_change) := goodIn_app (goodIn_of _ (by decide +kernel)) ggX7_setWeather_X7_change
set_option maxRecDepth 20000 in
theorem ggX7_advance_X7_change : GoodIn wsX7_advance wsX7_change := goodIn_ca (goodIn_ca (goodIn_ca (goodIn_ca (goodIn_ca (goodIn_ca (goodIn_r _ [6, 7, 8, 9, 10, 11, 12, 13, 14, 15, 16, 17, 18, 19, 20, 21, 22, 23, 24, 25, 26, 27, 28, 29, 30, 31, 32, 33, 34, 35, 36, 37, 38, 39, 40, 41, 42, 43, 44, 45, 46, 47, 48, 49, 50, 51, 52, 53, 54, 55, 56, 57, 58, 59, 60, 61, 62, 63, 64, 65, 66, 5, 67, 68, 69, 70, 71, 72, 73, 74, 75, 76, 77, 78, 79, 80, 81, 82, 83, 84, 85, 86, 87, 88, 89, 90, 91, 92, 93, 94, 95, 96, 97, 98, 99, 100, 101, 102, 103, 104, 105, 106, 107, 108, 109, 110, 111, 112, 113, 114, 115, 116, 117, 118, 119, 120, 121, 122, 123, 124, 125, 126, 127, 128, 129, 130, 131, 132, 133, 134, 135, 136, 137, 138, 139, 140, 141, 142, 143, 144, 145, 146, 147, 148, 149, 150, 151, 152, 153, 154, 155, 156, 157, 158, 159, 160, 161, 162, 163, 164, 165, 166, 167, 168, 169, 170, 171, 172, 173, 174, 175, 176, 177, 178, 179, 180, 181, 182, 183, 184, 185, 186, 187, 188, 189, 190, 191, 192, 193, 194, 195, 196, 197, 198, 199, 200, 201, 202, 203, 204, 205, 206, 207, 208, 209, 210, 211, 212, 213, 214, 215, 216, 217, 218, 219, 220, 221, 222, 223, 224, 225, 226, 227, 228, 229, 230, 231, 232, 233, 234, 235, 236, 237, 238] (by decide +kernel) (by decide +kernel)) (goodIn_sub (fun _ h => List.mem_cons_of_mem _ (List.mem_append_left _ (List.mem_append_left _ (List.mem_append_left _ (List.mem_append_left _ (List.mem_append_left _ (List.mem_append_right _ h))))))) (by decide +kernel))) (goodIn_sub (fun _ h => List.mem_cons_of_mem _ (List.mem_append_left _ (List.mem_append_left _ (List.mem_append_left _ (List.mem_append_left _ (List.mem_append_right _ h)))))) (by decide +kernel))) (goodIn_sub (fun _ h => List.mem_cons_of_mem _ (List.mem_append_left _ (List.mem_append_left _ (List.mem_append_left _ (List.mem_append_right _ h))))) (by decide +kernel))) (goodIn_sub (fun _ h => List.mem_cons_of_mem _ (List.mem_append_left _ (List.mem_append_left _ (List.mem_append_right _ h)))) (by decide +kernel))) (goodIn_sub (fun _ h => List.mem_cons_of_mem _ (List.mem_append_left _ (List.mem_append_right _ h))) (by decide +kernel))) (goodIn_sub (fun _ h => List.mem_cons_of_mem _ (List.mem_append_right _ h)) (by decide +kernel))
set_option maxRecDepth 20000 in
theorem gX7_advance_X7_change : GoodIn wsX7_advance (wsV RX7 56 RX7 yX7_change wsX7_change) := goodIn_app (goodIn_of _ (by decide +kernel)) ggX7_advance_X7_change
set_option maxRecDepth 20000 in
theorem ggX7_stock_X7_needTruck : GoodIn wsX7_stock wsX7_needTruck := goodIn_ca (goodIn_r _ [6, 7, 8, 1, 9, 10, 11, 12, 13, 14, 27, 28, 29, 30, 31, 32, 33, 34, 35, 36, 37, 38, 39, 40, 41, 42, 43, 44, 45, 46, 47] (by decide +kernel) (by decide +kernel)) (goodIn_sub (fun _ h => List.mem_cons_of_mem _ (List.mem_append_left _ (List.mem_append_right _ h))) (by decide +kernel))
set_option maxRecDepth 20000 in
theorem gX7_stock_X7_needTruck : GoodIn wsX7_stock (wsV RX7 87 RX7 yX7_needTruck wsX7_needTruck) := goodIn_app (goodIn_of _ (by decide +kernel)) ggX7_stock_X7_needTruck
set_option maxRecDepth 20000 in
theorem ggX7_stock_X7_needDish : GoodIn wsX7_stock wsX7_needDish := goodIn_ca (goodIn_r _ [17, 7, 8, 18, 19, 5, 20] (by decide +kernel) (by decide +kernel)) (goodIn_sub (fun _ h => List.mem_cons_of_mem _ (List.mem_append_left _ (List.mem_append_right _ h))) (by decide +kernel))
set_option maxRecDepth 20000 in
theorem gX7_stock_X7_needDish : GoodIn wsX7_stock (va_wsS RX7 91 yX7_needDish wsX7_needDish) := goodIn_app (goodIn_of _ (by decide +kernel)) ggX7_stock_X7_needDish
set_option maxRecDepth 20000 in
theorem ggX7_stock_X6_portionsOf : GoodIn wsX7_stock wsX6_portionsOf := goodIn_ca (goodIn_r _ [25, 26, 19, 5, 20, 48, 49, 50, 51, 52, 53] (by decide +kernel) (by decide +kernel)) (goodIn_sub (fun _ h => List.mem_cons_of_mem _ (List.mem_append_right _ h)) (by decide +kernel))
set_option maxRecDepth 20000 in
theorem gX7_stock_X6_portionsOf : GoodIn wsX7_stock (wsV RX7 98 RX6 yX6_portionsOf wsX6_portionsOf) := goodIn_app (goodIn_of _ (by decide +kernel)) ggX7_stock_X6_portionsOf
set_option maxRecDepth 20000 in
theorem ggX7_coins_X7_needTruck : GoodIn wsX7_coins wsX7_needTruck := goodIn_ca (goodIn_r _ [6, 7, 8, 1, 9, 10, 11, 12, 13, 14, 15, 16, 17, 18, 19, 20, 21, 22, 23, 24, 25, 26, 27, 28, 29, 30, 31, 32, 33, 34, 35] (by decide +kernel) (by decide +kernel)) (goodIn_sub (fun _ h => List.mem_cons_of_mem _ (List.mem_append_right _ h)) (by decide +kernel))
set_option maxRecDepth 20000 in
theorem gX7_coins_X7_needTruck : GoodIn wsX7_coins (wsV RX7 87 RX7 yX7_needTruck wsX7_needTruck) := goodIn_app (goodIn_of _ (by decide +kernel)) ggX7_coins_X7_needTruck
set_option maxRecDepth 20000 in
theorem ggX7_price_X7_needDish : GoodIn wsX7_price wsX7_needDish := goodIn_ca (goodIn_r _ [5, 6, 7, 8, 9, 4, 10] (by decide +kernel) (by decide +kernel)) (goodIn_sub (fun _ h => List.mem_cons_of_mem _ (List.mem_append_right _ h)) (by decide +kernel))
set_option maxRecDepth 20000 in
theorem gX7_price_X7_needDish : GoodIn wsX7_price (va_wsS RX7 91 yX7_needDish wsX7_needDish) := goodIn_app (goodIn_of _ (by decide +kernel)) ggX7_price_X7_needDish
set_option maxRecDepth 20000 in
theorem ggX7_hasPermit_X7_needTruck : GoodIn wsX7_hasPermit wsX7_needTruck := goodIn_ca (goodIn_r _ [6, 7, 8, 1, 9, 10, 11, 12, 13, 14, 29, 30, 31, 32, 33, 34, 35, 36, 37, 38, 39, 40, 41, 42, 43, 44, 45, 46, 47, 48, 49] (by decide +kernel) (by decide +kernel)) (goodIn_sub (fun _ h => List.mem_cons_of_mem _ (List.mem_append_left _ (List.mem_append_right _ h))) (by decide +kernel))
set_option maxRecDepth 20000 in
theorem gX7_hasPermit_X7_needTruck : GoodIn wsX7_hasPermit (wsV RX7 87 RX7 yX7_needTruck wsX7_needTruck) := goodIn_app (goodIn_of _ (by decide +kernel)) ggX7_hasPermit_X7_needTruck
set_option maxRecDepth 20000 in
theorem ggX7_hasPermit_X7_needWeekday : GoodIn wsX7_hasPermit wsX7_needWeekday := goodIn_ca (goodIn_r _ [17, 18, 19, 20, 21, 5, 22] (by decide +kernel) (by decide +kernel)) (goodIn_sub (fun _ h => List.mem_cons_of_mem _ (List.mem_append_right _ h)) (by decide +kernel))
set_option maxRecDepth 20000 in
theorem gX7_hasPermit_X7_needWeekday : GoodIn wsX7_hasPermit (va_wsS RX7 111 yX7_needWeekday wsX7_needWeekday) := goodIn_app (goodIn_of _ (by decide +kernel)) ggX7_hasPermit_X7_needWeekday
set_option maxRecDepth 20000 in
theorem ggX7_hasPermit_X6_isPermitted : GoodIn wsX7_hasPermit wsX6_isPermitted := goodIn_r _ [27, 28, 21, 5, 22, 50, 51, 52, 53, 54, 55] (by decide +kernel) (by decide +kernel)
set_option maxRecDepth 20000 in
theorem gX7_hasPermit_X6_isPermitted : GoodIn wsX7_hasPermit (wsV RX7 114 RX6 yX6_isPermitted wsX6_isPermitted) := goodIn_app (goodIn_of _ (by decide +kernel)) ggX7_hasPermit_X6_isPermitted
set_option maxRecDepth 20000 in
theorem ggX7_truckAt_X7_needPitch : GoodIn wsX7_truckAt wsX7_needPitch := goodIn_ca (goodIn_r _ [5, 6, 7, 8, 9, 4, 10] (by decide +kernel) (by decide +kernel)) (goodIn_sub (fun _ h => List.mem_cons_of_mem _ (List.mem_append_left _ (List.mem_append_left _ (List.mem_append_left _ (List.mem_append_right _ h))))) (by decide +kernel))
set_option maxRecDepth 20000 in
theorem gX7_truckAt_X7_needPitch : GoodIn wsX7_truckAt (va_wsS RX7 118 yX7_needPitch wsX7_needPitch) := goodIn_app (goodIn_of _ (by decide +kernel)) ggX7_truckAt_X7_needPitch
set_option maxRecDepth 20000 in
theorem ggX7_truckAt_X7_needWeekday : GoodIn wsX7_truckAt wsX7_needWeekday := goodIn_ca (goodIn_r _ [13, 14, 15, 16, 17, 4, 18] (by decide +kernel) (by decide +kernel)) (goodIn_sub (fun _ h => List.mem_cons_of_mem _ (List.mem_append_left _ (List.mem_append_left _ (List.mem_append_right _ h)))) (by decide +kernel))
set_option maxRecDepth 20000 in
theorem gX7_truckAt_X7_needWeekday : GoodIn wsX7_truckAt (va_wsS RX7 111 yX7_needWeekday wsX7_needWeekday) := goodIn_app (goodIn_of _ (by decide +kernel)) ggX7_truckAt_X7_needWeekday
set_option maxRecDepth 20000 in
theorem ggX7_truckAt_X4_holderOf : GoodIn wsX7_truckAt wsX4_holderOf := goodIn_ca (goodIn_r _ [23, 24, 39, 40, 41, 42, 43, 44, 45, 46, 47, 48, 49, 50] (by decide +kernel) (by decide +kernel)) (goodIn_sub (fun _ h => List.mem_cons_of_mem _ (List.mem_append_left _ (List.mem_append_right _ h))) (by decide +kernel))
set_option maxRecDepth 20000 in
theorem gX7_truckAt_X4_holderOf : GoodIn wsX7_truckAt (wsV RX7 121 RX4 yX4_holderOf wsX4_holderOf) := goodIn_app (goodIn_of _ (by decide +kernel)) ggX7_truckAt_X4_holderOf
set_option maxRecDepth 20000 in
theorem ggX7_truckAt_X7_needFound : GoodIn wsX7_truckAt wsX7_needFound := goodIn_ca (goodIn_r _ [27, 28, 29] (by decide +kernel) (by decide +kernel)) (goodIn_sub (fun _ h => List.mem_cons_of_mem _ (List.mem_append_right _ h)) (by decide +kernel))
set_option maxRecDepth 20000 in
theorem gX7_truckAt_X7_needFound : GoodIn wsX7_truckAt (va_wsS RX7 125 yX7_needFound wsX7_needFound) := goodIn_app (goodIn_of _ (by decide +kernel)) ggX7_truckAt_X7_needFound
set_option maxRecDepth 20000 in
theorem ggX7_pitchOf_X7_needTruck : GoodIn wsX7_pitchOf wsX7_needTruck := goodIn_ca (goodIn_r _ [6, 7, 8, 1, 9, 10, 11, 12, 13, 14, 37, 38, 39, 40, 41, 42, 43, 44, 45, 46, 47, 48, 49, 50, 51, 52, 53, 54, 55, 56, 57] (by decide +kernel) (by decide +kernel)) (goodIn_sub (fun _ h => List.mem_cons_of_mem _ (List.mem_append_left _ (List.mem_append_left _ (List.mem_append_left _ (List.mem_append_right _ h))))) (by decide +kernel))
set_option maxRecDepth 20000 in
theorem gX7_pitchOf_X7_needTruck : GoodIn wsX7_pitchOf (wsV RX7 87 RX7 yX7_needTruck wsX7_needTruck) := goodIn_app (goodIn_of _ (by decide +kernel)) ggX7_pitchOf_X7_needTruck
set_option maxRecDepth 20000 in
theorem ggX7_pitchOf_X7_needWeekday : GoodIn wsX7_pitchOf wsX7_needWeekday := goodIn_ca (goodIn_r _ [17, 18, 19, 20, 21, 5, 22] (by decide +kernel) (by decide +kernel)) (goodIn_sub (fun _ h => List.mem_cons_of_mem _ (List.mem_append_left _ (List.mem_append_left _ (List.mem_append_right _ h)))) (by decide +kernel))
set_option maxRecDepth 20000 in
theorem gX7_pitchOf_X7_needWeekday : GoodIn wsX7_pitchOf (va_wsS RX7 111 yX7_needWeekday wsX7_needWeekday) := goodIn_app (goodIn_of _ (by decide +kernel)) ggX7_pitchOf_X7_needWeekday
set_option maxRecDepth 20000 in
theorem ggX7_pitchOf_X4_pitchHeldBy : GoodIn wsX7_pitchOf wsX4_pitchHeldBy := goodIn_ca (goodIn_r _ [26, 27, 28, 29, 12, 30, 31, 46, 47, 48, 49, 50, 51, 52, 53, 54, 55, 56, 57] (by decide +kernel) (by decide +kernel)) (goodIn_sub (fun _ h => List.mem_cons_of_mem _ (List.mem_append_left _ (List.mem_append_right _ h))) (by decide +kernel))
set_option maxRecDepth 20000 in
theorem gX7_pitchOf_X4_pitchHeldBy : GoodIn wsX7_pitchOf (wsV RX7 128 RX4 yX4_pitchHeldBy wsX4_pitchHeldBy) := goodIn_app (goodIn_of _ (by decide +kernel)) ggX7_pitchOf_X4_pitchHeldBy
set_option maxRecDepth 20000 in
theorem ggX7_pitchOf_X7_needFound : GoodIn wsX7_pitchOf wsX7_needFound := goodIn_ca (goodIn_r _ [34, 35, 36] (by decide +kernel) (by decide +kernel)) (goodIn_sub (fun _ h => List.mem_cons_of_mem _ (List.mem_append_right _ h)) (by decide +kernel))
set_option maxRecDepth 20000 in
theorem gX7_pitchOf_X7_needFound : GoodIn wsX7_pitchOf (va_wsS RX7 125 yX7_needFound wsX7_needFound) := goodIn_app (goodIn_of _ (by decide +kernel)) ggX7_pitchOf_X7_needFound
set_option maxRecDepth 20000 in
theorem ggX7_isOpen_X7_needTruck : GoodIn wsX7_isOpen wsX7_needTruck := goodIn_ca (goodIn_r _ [6, 7, 8, 1, 9, 10, 11, 12, 13, 14, 37, 38, 39, 40, 41, 42, 43, 44, 45, 46, 47, 48, 49, 50, 51, 52, 53, 54, 55, 56, 57] (by decide +kernel) (by decide +kernel)) (goodIn_sub (fun _ h => List.mem_cons_of_mem _ (List.mem_append_left _ (List.mem_append_right _ h))) (by decide +kernel))
set_option maxRecDepth 20000 in
theorem gX7_isOpen_X7_needTruck : GoodIn wsX7_isOpen (wsV RX7 87 RX7 yX7_needTruck wsX7_needTruck) := goodIn_app (goodIn_of _ (by decide +kernel)) ggX7_isOpen_X7_needTruck
set_option maxRecDepth 20000 in
theorem ggX7_isOpen_X4_pitchToday : GoodIn wsX7_isOpen wsX4_pitchToday := goodIn_ca (goodIn_r _ [18, 19, 20, 21, 12, 22, 23, 24, 25, 26, 27, 28, 29, 30, 31, 32, 33, 34, 35, 36, 46, 47, 48, 49, 50, 51, 52, 53, 54, 55, 56, 57] (by decide +kernel) (by decide +kernel)) (goodIn_sub (fun _ h => List.mem_cons_of_mem _ (List.mem_append_right _ h)) (by decide +kernel))
set_option maxRecDepth 20000 in
theorem gX7_isOpen_X4_pitchToday : GoodIn wsX7_isOpen (wsV RX7 131 RX4 yX4_pitchToday wsX4_pitchToday) := goodIn_app (goodIn_of _ (by decide +kernel)) ggX7_isOpen_X4_pitchToday
set_option maxRecDepth 20000 in
theorem ggX7_assignments_X4_countByPitches : GoodIn wsX7_assignments wsX4_countByPitches := goodIn_ca (goodIn_r _ [6, 7, 8, 9, 5, 10, 11, 21, 22, 23, 24, 25, 26, 27, 28, 29, 30, 31, 32] (by decide +kernel) (by decide +kernel)) (goodIn_sub (fun _ h => List.mem_cons_of_mem _ (List.mem_append_right _ h)) (by decide +kernel))
set_option maxRecDepth 20000 in
theorem gX7_assignments_X4_countByPitches : GoodIn wsX7_assignments (wsV RX7 134 RX4 yX4_countByPitches wsX4_countByPitches) := goodIn_app (goodIn_of _ (by decide +kernel)) ggX7_assignments_X4_countByPitches
set_option maxRecDepth 20000 in
theorem ggX7_assignmentsByTrucks_X4_countByTrucks : GoodIn wsX7_assignmentsByTrucks wsX4_countByTrucks := goodIn_ca (goodIn_r _ [6, 7, 8, 9, 10, 5, 11, 12, 13, 14, 15, 16, 17, 18, 19, 20, 30, 31, 32, 33, 34, 35, 36, 37, 38, 39, 40, 41] (by decide +kernel) (by decide +kernel)) (goodIn_sub (fun _ h => List.mem_cons_of_mem _ (List.mem_append_right _ h)) (by decide +kernel))
set_option maxRecDepth 20000 in
theorem gX7_assignmentsByTrucks_X4_countByTrucks : GoodIn wsX7_assignmentsByTrucks (wsV RX7 138 RX4 yX4_countByTrucks wsX4_countByTrucks) := goodIn_app (goodIn_of _ (by decide +kernel)) ggX7_assignmentsByTrucks_X4_countByTrucks
set_option maxRecDepth 20000 in
theorem ggX7_firstFreeDay_X7_needTruck : GoodIn wsX7_firstFreeDay wsX7_needTruck := goodIn_ca (goodIn_r _ [6, 7, 8, 1, 9, 10, 11, 12, 13, 14, 43, 44, 45, 46, 47, 48, 49, 50, 51, 52, 53, 54, 55, 56, 57, 58, 59, 60, 61, 62, 63] (by decide +kernel) (by decide +kernel)) (goodIn_sub (fun _ h => List.mem_cons_of_mem _ (List.mem_append_left _ (List.mem_append_left _ (List.mem_append_right _ h)))) (by decide +kernel))
set_option maxRecDepth 20000 in
theorem gX7_firstFreeDay_X7_needTruck : GoodIn wsX7_firstFreeDay (wsV RX7 87 RX7 yX7_needTruck wsX7_needTruck) := goodIn_app (goodIn_of _ (by decide +kernel)) ggX7_firstFreeDay_X7_needTruck
set_option maxRecDepth 20000 in
theorem ggX7_firstFreeDay_X4_freeDayFor : GoodIn wsX7_firstFreeDay wsX4_freeDayFor := goodIn_ca (goodIn_r _ [18, 19, 20, 10, 11, 12, 13, 14, 21, 22, 23, 24, 25, 26, 27, 5, 28, 29, 30, 31, 32, 33, 34, 35, 36, 37, 52, 53, 54, 55, 56, 57, 58, 59, 60, 61, 62, 63, 64, 65, 66, 67, 68, 69] (by decide +kernel) (by decide +kernel)) (goodIn_sub (fun _ h => List.mem_cons_of_mem _ (List.mem_append_left _ (List.mem_append_right _ h))) (by decide +kernel))
set_option maxRecDepth 20000 in
theorem gX7_firstFreeDay_X4_freeDayFor : GoodIn wsX7_firstFreeDay (wsV RX7 141 RX4 yX4_freeDayFor wsX4_freeDayFor) := goodIn_app (goodIn_of _ (by decide +kernel)) ggX7_firstFreeDay_X4_freeDayFor
set_option maxRecDepth 20000 in
theorem ggX7_firstFreeDay_X7_needFound : GoodIn wsX7_firstFreeDay wsX7_needFound := goodIn_ca (goodIn_r _ [40, 41, 42] (by decide +kernel) (by decide +kernel)) (goodIn_sub (fun _ h => List.mem_cons_of_mem _ (List.mem_append_right _ h)) (by decide +kernel))
set_option maxRecDepth 20000 in
theorem gX7_firstFreeDay_X7_needFound : GoodIn wsX7_firstFreeDay (va_wsS RX7 125 yX7_needFound wsX7_needFound) := goodIn_app (goodIn_of _ (by decide +kernel)) ggX7_firstFreeDay_X7_needFound
set_option maxRecDepth 20000 in
theorem ggX7_firstFreePitch_X7_needWeekday : GoodIn wsX7_firstFreePitch wsX7_needWeekday := goodIn_ca (goodIn_r _ [5, 6, 7, 8, 9, 4, 10] (by decide +kernel) (by decide +kernel)) (goodIn_sub (fun _ h => List.mem_cons_of_mem _ (List.mem_append_left _ (List.mem_append_left _ (List.mem_append_right _ h)))) (by decide +kernel))
set_option maxRecDepth 20000 in
theorem gX7_firstFreePitch_X7_needWeekday : GoodIn wsX7_firstFreePitch (va_wsS RX7 111 yX7_needWeekday wsX7_needWeekday) := goodIn_app (goodIn_of _ (by decide +kernel)) ggX7_firstFreePitch_X7_needWeekday
set_option maxRecDepth 20000 in
theorem ggX7_firstFreePitch_X4_pitchHeldBy : GoodIn wsX7_firstFreePitch wsX4_pitchHeldBy := goodIn_ca (goodIn_r _ [15, 16, 17, 18, 14, 19, 20, 35, 36, 37, 38, 39, 40, 41, 42, 43, 44, 45, 46] (by decide +kernel) (by decide +kernel)) (goodIn_sub (fun _ h => List.mem_cons_of_mem _ (List.mem_append_left _ (List.mem_append_right _ h))) (by decide +kernel))
set_option maxRecDepth 20000 in
theorem gX7_firstFreePitch_X4_pitchHeldBy : GoodIn wsX7_firstFreePitch (wsV RX7 128 RX4 yX4_pitchHeldBy wsX4_pitchHeldBy) := goodIn_app (goodIn_of _ (by decide +kernel)) ggX7_firstFreePitch_X4_pitchHeldBy
set_option maxRecDepth 20000 in
theorem ggX7_firstFreePitch_X7_needFound : GoodIn wsX7_firstFreePitch wsX7_needFound := goodIn_ca (goodIn_r _ [23, 24, 25] (by decide +kernel) (by decide +kernel)) (goodIn_sub (fun _ h => List.mem_cons_of_mem _ (List.mem_append_right _ h)) (by decide +kernel))
set_option maxRecDepth 20000 in
theorem gX7_firstFreePitch_X7_needFound : GoodIn wsX7_firstFreePitch (va_wsS RX7 125 yX7_needFound wsX7_needFound) := goodIn_app (goodIn_of _ (by decide +kernel)) ggX7_firstFreePitch_X7_needFound
set_option maxRecDepth 20000 in
theorem ggX7_queueLength_X7_needTruck : GoodIn wsX7_queueLength wsX7_needTruck := goodIn_ca (goodIn_r _ [6, 7, 8, 1, 9, 10, 11, 12, 13, 14, 15, 16, 17, 18, 19, 20, 21, 22, 23, 24, 25, 26, 27, 28, 29, 30, 31, 32, 33, 34, 35] (by decide +kernel) (by decide +kernel)) (goodIn_sub (fun _ h => List.mem_cons_of_mem _ (List.mem_append_right _ h)) (by decide +kernel))
set_option maxRecDepth 20000 in
theorem gX7_queueLength_X7_needTruck : GoodIn wsX7_queueLength (wsV RX7 87 RX7 yX7_needTruck wsX7_needTruck) := goodIn_app (goodIn_of _ (by decide +kernel)) ggX7_queueLength_X7_needTruck
set_option maxRecDepth 20000 in
theorem ggX7_wantedDish_X7_needTruck : GoodIn wsX7_wantedDish wsX7_needTruck := goodIn_ca (goodIn_r _ [6, 7, 8, 1, 9, 10, 11, 12, 13, 14, 27, 28, 29, 30, 31, 32, 33, 34, 35, 36, 37, 38, 39, 40, 41, 42, 43, 44, 45, 46, 47] (by decide +kernel) (by decide +kernel)) (goodIn_sub (fun _ h => List.mem_cons_of_mem _ (List.mem_append_left _ (List.mem_append_left _ (List.mem_append_right _ h)))) (by decide +kernel))
set_option maxRecDepth 20000 in
theorem gX7_wantedDish_X7_needTruck : GoodIn wsX7_wantedDish (wsV RX7 87 RX7 yX7_needTruck wsX7_needTruck) := goodIn_app (goodIn_of _ (by decide +kernel)) ggX7_wantedDish_X7_needTruck
set_option maxRecDepth 20000 in
theorem ggX7_wantedDish_X6_wishAt : GoodIn wsX7_wantedDish wsX6_wishAt := goodIn_ca (goodIn_r _ [19, 20, 21, 48, 49, 50, 51, 52, 53] (by decide +kernel) (by decide +kernel)) (goodIn_sub (fun _ h => List.mem_cons_of_mem _ (List.mem_append_left _ (List.mem_append_right _ h))) (by decide +kernel))
set_option maxRecDepth 20000 in
theorem gX7_wantedDish_X6_wishAt : GoodIn wsX7_wantedDish (wsV RX7 147 RX6 yX6_wishAt wsX6_wishAt) := goodIn_app (goodIn_of _ (by decide +kernel)) ggX7_wantedDish_X6_wishAt
set_option maxRecDepth 20000 in
theorem ggX7_wantedDish_X7_needFound : GoodIn wsX7_wantedDish wsX7_needFound := goodIn_ca (goodIn_r _ [24, 25, 26] (by decide +kernel) (by decide +kernel)) (goodIn_sub (fun _ h => List.mem_cons_of_mem _ (List.mem_append_right _ h)) (by decide +kernel))
set_option maxRecDepth 20000 in
theorem gX7_wantedDish_X7_needFound : GoodIn wsX7_wantedDish (va_wsS RX7 125 yX7_needFound wsX7_needFound) := goodIn_app (goodIn_of _ (by decide +kernel)) ggX7_wantedDish_X7_needFound
set_option maxRecDepth 20000 in
theorem ggX7_minutesLeft_X7_needTruck : GoodIn wsX7_minutesLeft wsX7_needTruck := goodIn_ca (goodIn_r _ [6, 7, 8, 1, 9, 10, 11, 12, 13, 14, 15, 16, 17, 18, 19, 20, 21, 22, 23, 24, 25, 26, 27, 28, 29, 30, 31, 32, 33, 34, 35] (by decide +kernel) (by decide +kernel)) (goodIn_sub (fun _ h => List.mem_cons_of_mem _ (List.mem_append_right _ h)) (by decide +kernel))
set_option maxRecDepth 20000 in
theorem gX7_minutesLeft_X7_needTruck : GoodIn wsX7_minutesLeft (wsV RX7 87 RX7 yX7_needTruck wsX7_needTruck) := goodIn_app (goodIn_of _ (by decide +kernel)) ggX7_minutesLeft_X7_needTruck
set_option maxRecDepth 20000 in
theorem ggX7_queueTime_X7_needTruck : GoodIn wsX7_queueTime wsX7_needTruck := goodIn_ca (goodIn_r _ [6, 7, 8, 1, 9, 10, 11, 12, 13, 14, 29, 30, 31, 32, 33, 34, 35, 36, 37, 38, 39, 40, 41, 42, 43, 44, 45, 46, 47, 48, 49] (by decide +kernel) (by decide +kernel)) (goodIn_sub (fun _ h => List.mem_cons_of_mem _ (List.mem_append_left _ (List.mem_append_right _ h))) (by decide +kernel))
set_option maxRecDepth 20000 in
theorem gX7_queueTime_X7_needTruck : GoodIn wsX7_queueTime (wsV RX7 87 RX7 yX7_needTruck wsX7_needTruck) := goodIn_app (goodIn_of _ (by decide +kernel)) ggX7_queueTime_X7_needTruck
set_option maxRecDepth 20000 in
theorem ggX7_queueTime_X6_minutesForQueue : GoodIn wsX7_queueTime wsX6_minutesForQueue := goodIn_ca (goodIn_r _ [19, 20, 21, 22, 23, 24, 18, 25, 26, 27, 5, 28, 50, 51, 52, 53, 54, 55] (by decide +kernel) (by decide +kernel)) (goodIn_sub (fun _ h => List.mem_cons_of_mem _ (List.mem_append_right _ h)) (by decide +kernel))
set_option maxRecDepth 20000 in
theorem gX7_queueTime_X6_minutesForQueue : GoodIn wsX7_queueTime (wsV RX7 153 RX6 yX6_minutesForQueue wsX6_minutesForQueue) := goodIn_app (goodIn_of _ (by decide +kernel)) ggX7_queueTime_X6_minutesForQueue
set_option maxRecDepth 20000 in
theorem ggX7_servedWithin_X4_copyFrom : GoodIn wsX7_servedWithin wsX4_copyFrom := goodIn_r _ [9, 10, 11, 12, 13, 14, 15, 16, 17, 18, 19, 20, 21, 22, 23, 24, 25, 26, 27, 28, 29, 30, 31, 32, 33, 34, 35, 36, 37, 108, 109, 110, 111, 112, 113, 114, 115, 116, 117, 118, 119, 120, 121, 122, 123, 124, 125] (by decide +kernel) (by decide +kernel)
set_option maxRecDepth 20000 in
theorem gX7_servedWithin_X4_copyFrom : GoodIn wsX7_servedWithin (wsV RX7 163 RX4 yX4_copyFrom wsX4_copyFrom) := goodIn_app (goodIn_of _ (by decide +kernel)) ggX7_servedWithin_X4_copyFrom
set_option maxRecDepth 20000 in
theorem ggX7_servedWithin_X4_passMinutes : GoodIn wsX7_servedWithin wsX4_passMinutes := goodIn_ca (goodIn_r _ [41, 23, 20, 42, 43, 44, 8, 45, 21, 22, 25, 46, 47, 48, 49, 50, 51, 52, 53, 10, 54, 55, 56, 57, 19, 58, 59, 60, 61, 11, 62, 63, 64, 65, 18, 66, 67, 68, 29, 69, 34, 33, 70, 71, 72, 73, 74, 75, 76, 77, 24, 16, 17, 78, 79, 80, 81, 82, 83, 84, 85, 86, 87, 88, 89, 90, 91, 92, 93, 94, 95, 96, 97, 98, 35, 108, 109, 110, 111, 112, 113, 114, 115, 116, 117, 118, 119, 120, 121, 122, 123, 124, 125] (by decide +kernel) (by decide +kernel)) (goodIn_sub (fun _ h => List.mem_cons_of_mem _ (List.mem_append_right _ h)) (by decide +kernel))
set_option maxRecDepth 20000 in
theorem gX7_servedWithin_X4_passMinutes : GoodIn wsX7_servedWithin (wsV RX7 167 RX4 yX4_passMinutes wsX4_passMinutes) := goodIn_app (goodIn_of _ (by decide +kernel)) ggX7_servedWithin_X4_passMinutes
set_option maxRecDepth 20000 in
theorem ggX7_truckByCoins_X4_truckRanked : GoodIn wsX7_truckByCoins wsX4_truckRanked := goodIn_ca (goodIn_r _ [6, 7, 8, 9, 10, 5, 11, 12, 13, 14, 15, 16, 17, 18, 19, 20, 21, 22, 23, 24, 25, 26, 27, 43, 44, 45, 46, 47, 48, 49, 50, 51, 52, 53, 54, 55, 56, 57, 58, 59, 60] (by decide +kernel) (by decide +kernel)) (goodIn_sub (fun _ h => List.mem_cons_of_mem _ (List.mem_append_left _ (List.mem_append_right _ h))) (by decide +kernel))
set_option maxRecDepth 20000 in
theorem gX7_truckByCoins_X4_truckRanked : GoodIn wsX7_truckByCoins (wsV RX7 170 RX4 yX4_truckRanked wsX4_truckRanked) := goodIn_app (goodIn_of _ (by decide +kernel)) ggX7_truckByCoins_X4_truckRanked
set_option maxRecDepth 20000 in
theorem ggX7_truckByCoins_X7_needFound : GoodIn wsX7_truckByCoins wsX7_needFound := goodIn_ca (goodIn_r _ [31, 32, 33] (by decide +kernel) (by decide +kernel)) (goodIn_sub (fun _ h => List.mem_cons_of_mem _ (List.mem_append_right _ h)) (by decide +kernel))
set_option maxRecDepth 20000 in
theorem gX7_truckByCoins_X7_needFound : GoodIn wsX7_truckByCoins (va_wsS RX7 125 yX7_needFound wsX7_needFound) := goodIn_app (goodIn_of _ (by decide +kernel)) ggX7_truckByCoins_X7_needFound
set_option maxRecDepth 20000 in
theorem ggX7_soldPortions_X7_needDish : GoodIn wsX7_soldPortions wsX7_needDish := goodIn_ca (goodIn_r _ [5, 6, 7, 8, 9, 4, 10] (by decide +kernel) (by decide +kernel)) (goodIn_sub (fun _ h => List.mem_cons_of_mem _ (List.mem_append_right _ h)) (by decide +kernel))
set_option maxRecDepth 20000 in
theorem gX7_soldPortions_X7_needDish : GoodIn wsX7_soldPortions (va_wsS RX7 91 yX7_needDish wsX7_needDish) := goodIn_app (goodIn_of _ (by decide +kernel)) ggX7_soldPortions_X7_needDish
set_option maxRecDepth 20000 in
theorem ggX7_meanCoins_X4_sumOfCoins : GoodIn wsX7_meanCoins wsX4_sumOfCoins := goodIn_r _ [8, 9, 19, 20, 21, 22, 23, 24, 25, 26, 27, 28, 29, 30, 31, 32, 33, 34, 35, 36] (by decide +kernel) (by decide +kernel)
set_option maxRecDepth 20000 in
theorem gX7_meanCoins_X4_sumOfCoins : GoodIn wsX7_meanCoins (wsV RX7 202 RX4 yX4_sumOfCoins wsX4_sumOfCoins) := goodIn_app (goodIn_of _ (by decide +kernel)) ggX7_meanCoins_X4_sumOfCoins
set_option maxRecDepth 20000 in
theorem ggX7_isConsistent_X4_countByPitches : GoodIn wsX7_isConsistent wsX4_countByPitches := goodIn_ca (goodIn_r _ [6, 7, 8, 9, 5, 10, 11, 61, 62, 63, 64, 65, 66, 67, 68, 69, 70, 71, 72] (by decide +kernel) (by decide +kernel)) (goodIn_sub (fun _ h => List.mem_cons_of_mem _ (List.mem_append_right _ h)) (by decide +kernel))
set_option maxRecDepth 20000 in
theorem gX7_isConsistent_X4_countByPitches : GoodIn wsX7_isConsistent (wsV RX7 134 RX4 yX4_countByPitches wsX4_countByPitches) := goodIn_app (goodIn_of _ (by decide +kernel)) ggX7_isConsistent_X4_countByPitches
set_option maxRecDepth 20000 in
theorem ggX7_isConsistent_X4_countByTrucks : GoodIn wsX7_isConsistent wsX4_countByTrucks := goodIn_ca (goodIn_r _ [15, 16, 17, 18, 19, 5, 20, 21, 22, 23, 24, 7, 8, 9, 10, 11, 61, 62, 63, 64, 65, 66, 67, 68, 69, 70, 71, 72] (by decide +kernel) (by decide +kernel)) (goodIn_sub (fun _ h => List.mem_cons_of_mem _ (List.mem_append_right _ h)) (by decide +kernel))
set_option maxRecDepth 20000 in
theorem gX7_isConsistent_X4_countByTrucks : GoodIn wsX7_isConsistent (wsV RX7 138 RX4 yX4_countByTrucks wsX4_countByTrucks) := goodIn_app (goodIn_of _ (by decide +kernel)) ggX7_isConsistent_X4_countByTrucks
set_option maxRecDepth 20000 in
theorem ggX7_isConsistent_X4_sumOfQueues : GoodIn wsX7_isConsistent wsX4_sumOfQueues := goodIn_r _ [28, 29, 61, 62, 63, 64, 65, 66, 67, 68, 69, 70, 71, 72, 73, 74, 75, 76, 77, 78] (by decide +kernel) (by decide +kernel)
set_option maxRecDepth 20000 in
theorem gX7_isConsistent_X4_sumOfQueues : GoodIn wsX7_isConsistent (wsV RX7 207 RX4 yX4_sumOfQueues wsX4_sumOfQueues) := goodIn_app (goodIn_of _ (by decide +kernel)) ggX7_isConsistent_X4_sumOfQueues
set_option maxRecDepth 20000 in
theorem ggX7_isConsistent_X4_everyHolderIsPermitted : GoodIn wsX7_isConsistent wsX4_everyHolderIsPermitted := goodIn_ca (goodIn_r _ [33, 29, 7, 8, 9, 5, 10, 11, 34, 35, 36, 37, 16, 38, 39, 40, 41, 42, 43, 44, 45, 46, 61, 62, 63, 64, 65, 66, 67, 68, 69, 70, 71, 72, 73, 74, 75, 76, 77, 78] (by decide +kernel) (by decide +kernel)) (goodIn_sub (fun _ h => List.mem_cons_of_mem _ (List.mem_append_right _ h)) (by decide +kernel))
set_option maxRecDepth 20000 in
theorem gX7_isConsistent_X4_everyHolderIsPermitted : GoodIn wsX7_isConsistent (wsV RX7 210 RX4 yX4_everyHolderIsPermitted wsX4_everyHolderIsPermitted) := goodIn_app (goodIn_of _ (by decide +kernel)) ggX7_isConsistent_X4_everyHolderIsPermitted
set_option maxRecDepth 20000 in
theorem ggX7_isConsistent_X4_sumOfSold : GoodIn wsX7_isConsistent wsX4_sumOfSold := goodIn_ca (goodIn_r _ [50, 51, 61, 62, 63, 64, 65, 66, 67, 68, 69, 70, 71, 72] (by decide +kernel) (by decide +kernel)) (goodIn_sub (fun _ h => List.mem_cons_of_mem _ (List.mem_append_right _ h)) (by decide +kernel))
set_option maxRecDepth 20000 in
theorem gX7_isConsistent_X4_sumOfSold : GoodIn wsX7_isConsistent (wsV RX7 214 RX4 yX4_sumOfSold wsX4_sumOfSold) := goodIn_app (goodIn_of _ (by decide +kernel)) ggX7_isConsistent_X4_sumOfSold
set_option maxRecDepth 20000 in
theorem ggX7_renderDay_X7_needWeekday : GoodIn wsX7_renderDay wsX7_needWeekday := goodIn_ca (goodIn_r _ [6, 7, 8, 9, 10, 5, 11] (by decide +kernel) (by decide +kernel)) (goodIn_sub (fun _ h => List.mem_cons_of_mem _ (List.mem_append_left _ (List.mem_append_right _ h))) (by decide +kernel))
set_option maxRecDepth 20000 in
theorem gX7_renderDay_X7_needWeekday : GoodIn wsX7_renderDay (va_wsS RX7 111 yX7_needWeekday wsX7_needWeekday) := goodIn_app (goodIn_of _ (by decide +kernel)) ggX7_renderDay_X7_needWeekday
set_option maxRecDepth 20000 in
theorem ggX7_renderDay_J4_setLength_d00df : GoodIn wsX7_renderDay wsJ4_setLength_d00df := goodIn_r _ [16, 17, 18, 19, 20, 21, 22, 23, 24, 25, 26, 27, 28, 29, 30, 31, 32, 33, 34, 35, 36, 37, 38, 39, 40, 41, 42, 43, 44, 45, 46, 47, 48, 49, 50, 51, 52, 53, 54, 55, 56, 57, 58, 59, 60, 61, 62, 63, 64, 65, 66, 67, 68, 69, 70, 71, 72, 73, 74, 75, 76, 77, 78, 79, 80, 81, 82, 83, 84, 85, 86, 87, 88, 15, 89, 90, 91, 92, 93, 94, 95, 96, 216, 217, 218, 219, 220, 221, 222, 223, 224, 225, 226, 227, 228, 229, 230, 231] (by decide +kernel) (by decide +kernel)
set_option maxRecDepth 20000 in
theorem gX7_renderDay_J4_setLength_d00df : GoodIn wsX7_renderDay (wsV RX7 217 RJ4 yJ4_setLength_d00df wsJ4_setLength_d00df) := goodIn_app (goodIn_of _ (by decide +kernel)) ggX7_renderDay_J4_setLength_d00df
set_option maxRecDepth 20000 in
theorem ggX7_renderDay_X4_holderOf : GoodIn wsX7_renderDay wsX4_holderOf := goodIn_ca (goodIn_r _ [101, 102, 232, 233, 234, 235, 236, 237, 238, 239, 240, 241, 242, 243] (by decide +kernel) (by decide +kernel)) (goodIn_sub (fun _ h => List.mem_cons_of_mem _ (List.mem_append_right _ h)) (by decide +kernel))
set_option maxRecDepth 20000 in
theorem gX7_renderDay_X4_holderOf : GoodIn wsX7_renderDay (wsV RX7 121 RX4 yX4_holderOf wsX4_holderOf) := goodIn_app (goodIn_of _ (by decide +kernel)) ggX7_renderDay_X4_holderOf
set_option maxRecDepth 20000 in
theorem ggX7_renderDay_J4_append_cf468 : GoodIn wsX7_renderDay wsJ4_append_cf468 := goodIn_r _ [106, 107, 108, 19, 109, 21, 110, 26, 27, 29, 30, 31, 32, 33, 34, 35, 36, 37, 38, 39, 40, 41, 42, 43, 44, 45, 46, 47, 48, 49, 50, 51, 52, 53, 54, 55, 56, 57, 58, 59, 60, 61, 62, 63, 64, 65, 66, 67, 68, 69, 70, 71, 72, 73, 74, 75, 76, 111, 112, 79, 113, 114, 115, 116, 117, 118, 119, 120, 94, 121, 122, 123, 124, 125, 126, 127, 128, 129, 130, 131, 132, 133, 134, 135, 136, 137, 138, 139, 140, 141, 142, 143, 144, 145, 146, 147, 148, 149, 150, 151, 152, 153, 154, 155, 156, 157, 158, 159, 160, 161, 162, 163, 164, 222, 223, 224, 225] (by decide +kernel) (by decide +kernel)
set_option maxRecDepth 20000 in
theorem gX7_renderDay_J4_append_cf468 : GoodIn wsX7_renderDay (wsV RX7 220 RJ4 yJ4_append_cf468 wsJ4_append_cf468) := goodIn_app (goodIn_of _ (by decide +kernel)) ggX7_renderDay_J4_append_cf468
set_option maxRecDepth 20000 in
theorem ggX7_renderDay_J4_append_bf812 : GoodIn wsX7_renderDay wsJ4_append_bf812 := goodIn_r _ [168, 169, 170, 19, 171, 21, 172, 26, 27, 173, 174, 175, 176, 29, 30, 31, 32, 33, 34, 35, 36, 37, 38, 39, 40, 41, 42, 43, 44, 45, 46, 47, 48, 49, 50, 51, 52, 53, 54, 55, 56, 57, 58, 59, 60, 61, 62, 63, 64, 65, 66, 67, 68, 69, 70, 71, 72, 73, 74, 75, 76, 177, 178, 179, 180, 181, 182, 183, 94, 184, 150, 185, 186, 187, 135, 136, 137, 188, 189, 140, 190, 142, 191, 192, 145, 193, 194, 195, 196, 197, 198, 147, 148, 149, 151, 152, 222, 223, 224, 225] (by decide +kernel) (by decide +kernel)
set_option maxRecDepth 20000 in
theorem gX7_renderDay_J4_append_bf812 : GoodIn wsX7_renderDay (wsV RX7 224 RJ4 yJ4_append_bf812 wsJ4_append_bf812) := goodIn_app (goodIn_of _ (by decide +kernel)) ggX7_renderDay_J4_append_bf812
set_option maxRecDepth 20000 in
theorem ggX7_renderDay_J4_length_8abf5 : GoodIn wsX7_renderDay wsJ4_length_8abf5 := goodIn_r _ [202, 203, 204, 19, 205, 21, 206, 26, 222, 223, 224, 225] (by decide +kernel) (by decide +kernel)
set_option maxRecDepth 20000 in
theorem gX7_renderDay_J4_length_8abf5 : GoodIn wsX7_renderDay (wsV RX7 227 RJ4 yJ4_length_8abf5 wsJ4_length_8abf5) := goodIn_app (goodIn_of _ (by decide +kernel)) ggX7_renderDay_J4_length_8abf5
set_option maxRecDepth 20000 in
theorem ggX7_renderTruck_X7_needTruck : GoodIn wsX7_renderTruck wsX7_needTruck := goodIn_ca (goodIn_r _ [7, 8, 9, 1, 10, 11, 12, 13, 14, 15, 235, 236, 237, 238, 239, 240, 241, 242, 243, 244, 245, 246, 247, 248, 249, 250, 251, 252, 253, 254, 255] (by decide +kernel) (by decide +kernel)) (goodIn_sub (fun _ h => List.mem_cons_of_mem _ (List.mem_append_left _ (List.mem_append_right _ h))) (by decide +kernel))
set_option maxRecDepth 20000 in
theorem gX7_renderTruck_X7_needTruck : GoodIn wsX7_renderTruck (wsV RX7 87 RX7 yX7_needTruck wsX7_needTruck) := goodIn_app (goodIn_of _ (by decide +kernel)) ggX7_renderTruck_X7_needTruck
set_option maxRecDepth 20000 in
theorem ggX7_renderTruck_J4_setLength_d00df : GoodIn wsX7_renderTruck wsJ4_setLength_d00df := goodIn_r _ [20, 21, 22, 23, 24, 25, 26, 27, 28, 29, 30, 31, 32, 33, 34, 35, 36, 37, 38, 39, 40, 41, 42, 43, 44, 45, 46, 47, 48, 49, 50, 51, 52, 53, 54, 55, 56, 57, 58, 59, 60, 61, 62, 63, 64, 65, 66, 67, 68, 69, 70, 71, 72, 73, 74, 75, 76, 77, 78, 79, 80, 81, 82, 83, 84, 85, 86, 87, 88, 89, 90, 91, 92, 19, 93, 94, 95, 96, 97, 98, 99, 100, 262, 263, 264, 265, 266, 267, 268, 269, 270, 271, 272, 273, 274, 275, 276, 277] (by decide +kernel) (by decide +kernel)
set_option maxRecDepth 20000 in
theorem gX7_renderTruck_J4_setLength_d00df : GoodIn wsX7_renderTruck (wsV RX7 217 RJ4 yJ4_setLength_d00df wsJ4_setLength_d00df) := goodIn_app (goodIn_of _ (by decide +kernel)) ggX7_renderTruck_J4_setLength_d00df
set_option maxRecDepth 20000 in
theorem ggX7_renderTruck_J4_append_cf468 : GoodIn wsX7_renderTruck wsJ4_append_cf468 := goodIn_r _ [104, 105, 106, 23, 107, 25, 108, 30, 31, 33, 34, 35, 36, 37, 38, 39, 40, 41, 42, 43, 44, 45, 46, 47, 48, 49, 50, 51, 52, 53, 54, 55, 56, 57, 58, 59, 60, 61, 62, 63, 64, 65, 66, 67, 68, 69, 70, 71, 72, 73, 74, 75, 76, 77, 78, 79, 80, 109, 110, 83, 111, 112, 113, 114, 115, 116, 117, 118, 98, 119, 120, 121, 122, 123, 124, 125, 126, 127, 128, 129, 130, 131, 132, 133, 134, 135, 136, 137, 138, 139, 140, 141, 142, 143, 144, 145, 146, 147, 148, 149, 150, 151, 152, 153, 154, 155, 156, 157, 158, 159, 160, 161, 162, 268, 269, 270, 271] (by decide +kernel) (by decide +kernel)
set_option maxRecDepth 20000 in
theorem gX7_renderTruck_J4_append_cf468 : GoodIn wsX7_renderTruck (wsV RX7 220 RJ4 yJ4_append_cf468 wsJ4_append_cf468) := goodIn_app (goodIn_of _ (by decide +kernel)) ggX7_renderTruck_J4_append_cf468
set_option maxRecDepth 20000 in
theorem ggX7_renderTruck_J4_append_bf812 : GoodIn wsX7_renderTruck wsJ4_append_bf812 := goodIn_r _ [166, 167, 168, 23, 169, 25, 170, 30, 31, 171, 172, 173, 174, 33, 34, 35, 36, 37, 38, 39, 40, 41, 42, 43, 44, 45, 46, 47, 48, 49, 50, 51, 52, 53, 54, 55, 56, 57, 58, 59, 60, 61, 62, 63, 64, 65, 66, 67, 68, 69, 70, 71, 72, 73, 74, 75, 76, 77, 78, 79, 80, 175, 176, 177, 178, 179, 180, 181, 98, 182, 148, 183, 184, 185, 133, 134, 135, 186, 187, 138, 188, 140, 189, 190, 143, 191, 192, 193, 194, 195, 196, 145, 146, 147, 149, 150, 268, 269, 270, 271] (by decide +kernel) (by decide +kernel)
set_option maxRecDepth 20000 in
theorem gX7_renderTruck_J4_append_bf812 : GoodIn wsX7_renderTruck (wsV RX7 224 RJ4 yJ4_append_bf812 wsJ4_append_bf812) := goodIn_app (goodIn_of _ (by decide +kernel)) ggX7_renderTruck_J4_append_bf812
set_option maxRecDepth 20000 in
theorem ggX7_renderTruck_X6_portionsOf : GoodIn wsX7_renderTruck wsX6_portionsOf := goodIn_ca (goodIn_r _ [201, 202, 203, 6, 204, 256, 257, 258, 259, 260, 261] (by decide +kernel) (by decide +kernel)) (goodIn_sub (fun _ h => List.mem_cons_of_mem _ (List.mem_append_right _ h)) (by decide +kernel))
set_option maxRecDepth 20000 in
theorem gX7_renderTruck_X6_portionsOf : GoodIn wsX7_renderTruck (wsV RX7 98 RX6 yX6_portionsOf wsX6_portionsOf) := goodIn_app (goodIn_of _ (by decide +kernel)) ggX7_renderTruck_X6_portionsOf
set_option maxRecDepth 20000 in
theorem ggX7_renderTruck_X4_pitchToday : GoodIn wsX7_renderTruck wsX4_pitchToday := goodIn_ca (goodIn_r _ [208, 209, 210, 211, 13, 212, 213, 214, 215, 216, 217, 218, 219, 220, 221, 222, 223, 224, 225, 226, 244, 245, 246, 247, 248, 249, 250, 251, 252, 253, 254, 255] (by decide +kernel) (by decide +kernel)) (goodIn_sub (fun _ h => List.mem_cons_of_mem _ (List.mem_append_right _ h)) (by decide +kernel))
set_option maxRecDepth 20000 in
theorem gX7_renderTruck_X4_pitchToday : GoodIn wsX7_renderTruck (wsV RX7 131 RX4 yX4_pitchToday wsX4_pitchToday) := goodIn_app (goodIn_of _ (by decide +kernel)) ggX7_renderTruck_X4_pitchToday
set_option maxRecDepth 20000 in
theorem ggX7_renderTruck_J4_length_8abf5 : GoodIn wsX7_renderTruck wsJ4_length_8abf5 := goodIn_r _ [230, 231, 232, 23, 233, 25, 234, 30, 268, 269, 270, 271] (by decide +kernel) (by decide +kernel)
set_option maxRecDepth 20000 in
theorem gX7_renderTruck_J4_length_8abf5 : GoodIn wsX7_renderTruck (wsV RX7 227 RJ4 yJ4_length_8abf5 wsJ4_length_8abf5) := goodIn_app (goodIn_of _ (by decide +kernel)) ggX7_renderTruck_J4_length_8abf5
set_option maxRecDepth 20000 in
theorem ggX7_outputAt_J4_length_8abf5 : GoodIn wsX7_outputAt wsJ4_length_8abf5 := goodIn_r _ [8, 9, 10, 11, 12, 13, 14, 15, 58, 59, 60, 61] (by decide +kernel) (by decide +kernel)
set_option maxRecDepth 20000 in
theorem gX7_outputAt_J4_length_8abf5 : GoodIn wsX7_outputAt (wsV RX7 227 RJ4 yJ4_length_8abf5 wsJ4_length_8abf5) := goodIn_app (goodIn_of _ (by decide +kernel)) ggX7_outputAt_J4_length_8abf5
set_option maxRecDepth 20000 in
theorem ggX7_outputAt_J4_charAt_5068e : GoodIn wsX7_outputAt wsJ4_charAt_5068e := goodIn_r _ [19, 20, 21, 11, 22, 13, 23, 24, 25, 15, 26, 27, 28, 29, 30, 31, 32, 33, 34, 35, 36, 37, 38, 39, 40, 41, 42, 43, 44, 45, 46, 47, 48, 58, 59, 60, 61] (by decide +kernel) (by decide +kernel)
set_option maxRecDepth 20000 in
theorem gX7_outputAt_J4_charAt_5068e : GoodIn wsX7_outputAt (wsV RX7 235 RJ4 yJ4_charAt_5068e wsJ4_charAt_5068e) := goodIn_app (goodIn_of _ (by decide +kernel)) ggX7_outputAt_J4_charAt_5068e
set_option maxRecDepth 20000 in
theorem ggX7_type_J4_length_8abf5 : GoodIn wsX7_type wsJ4_length_8abf5 := goodIn_r _ [10, 11, 12, 13, 14, 15, 16, 17, 144, 145, 146, 147] (by decide +kernel) (by decide +kernel)
set_option maxRecDepth 20000 in
theorem gX7_type_J4_length_8abf5 : GoodIn wsX7_type (wsV RX7 227 RJ4 yJ4_length_8abf5 wsJ4_length_8abf5) := goodIn_app (goodIn_of _ (by decide +kernel)) ggX7_type_J4_length_8abf5
set_option maxRecDepth 20000 in
theorem ggX7_type_J4_append_cf468 : GoodIn wsX7_type wsJ4_append_cf468 := goodIn_r _ [21, 22, 23, 13, 24, 15, 25, 17, 26, 27, 28, 29, 30, 31, 32, 33, 34, 35, 36, 37, 38, 39, 40, 41, 42, 43, 44, 45, 46, 47, 48, 49, 50, 51, 52, 53, 54, 55, 56, 57, 58, 59, 60, 61, 62, 63, 64, 65, 66, 67, 68, 69, 70, 71, 72, 73, 74, 75, 76, 77, 78, 79, 80, 81, 82, 83, 84, 85, 86, 87, 88, 89, 90, 91, 92, 93, 94, 95, 96, 97, 98, 99, 100, 101, 102, 103, 104, 105, 106, 107, 108, 109, 110, 111, 112, 113, 114, 115, 116, 117, 118, 119, 120, 121, 122, 123, 124, 125, 126, 127, 128, 129, 130, 144, 145, 146, 147] (by decide +kernel) (by decide +kernel)
set_option maxRecDepth 20000 in
theorem gX7_type_J4_append_cf468 : GoodIn wsX7_type (wsV RX7 220 RJ4 yJ4_append_cf468 wsJ4_append_cf468) := goodIn_app (goodIn_of _ (by decide +kernel)) ggX7_type_J4_append_cf468
set_option maxRecDepth 20000 in
theorem ggX7_runScript_X3_read : GoodIn wsX7_runScript wsX3_read := goodIn_ca (goodIn_r _ [14, 15, 16, 17, 18, 19, 20, 21, 13, 22, 23, 24, 25, 26, 27, 28, 29, 30, 31, 32, 33, 34, 35, 36, 37, 38, 39, 40, 41, 42, 43, 44, 45, 46, 47, 48, 49, 50, 51, 52, 53, 54, 55, 56, 57, 58, 59, 60, 61, 62, 63, 64, 65, 66, 67, 68, 69, 70, 71, 72, 73, 74, 75, 76, 77, 78, 79, 80, 81, 82, 83, 84, 85, 86, 87, 88, 89, 90, 91, 92, 93, 94, 95, 96, 97, 98, 99, 100, 101, 102, 103, 104, 105, 106, 107, 108, 109, 110, 111, 112, 113, 114, 115, 116, 117, 118, 119, 120, 121, 122, 123, 124, 125, 126, 127, 395, 396, 397, 398, 399, 400, 401, 402, 403, 404, 405, 406, 407, 408] (by decide +kernel) (by decide +kernel)) (goodIn_sub (fun _ h => List.mem_cons_of_mem _ (List.mem_append_left _ (List.mem_append_right _ h))) (by decide +kernel))
set_option maxRecDepth 20000 in
theorem gX7_runScript_X3_read : GoodIn wsX7_runScript (wsV RX7 249 RX3 yX3_read wsX3_read) := goodIn_app (goodIn_of _ (by decide +kernel)) ggX7_runScript_X3_read
set_option maxRecDepth 20000 in
theorem ggX7_runScript_J4_setLength_d00df : GoodIn wsX7_runScript wsJ4_setLength_d00df := goodIn_r _ [131, 132, 133, 96, 134, 98, 135, 136, 137, 138, 100, 110, 139, 140, 141, 142, 143, 144, 109, 145, 146, 147, 148, 149, 150, 151, 152, 153, 154, 155, 29, 30, 31, 156, 157, 158, 159, 160, 161, 162, 163, 164, 165, 166, 167, 168, 169, 170, 171, 112, 113, 172, 173, 174, 175, 176, 177, 178, 179, 180, 181, 182, 183, 58, 184, 185, 186, 187, 188, 189, 190, 191, 192, 92, 193, 194, 195, 196, 197, 70, 198, 199, 409, 410, 411, 412, 413, 414, 405, 406, 407, 408, 415, 416, 417, 418, 419, 420] (by decide +kernel) (by decide +kernel)
set_option maxRecDepth 20000 in
theorem gX7_runScript_J4_setLength_d00df : GoodIn wsX7_runScript (wsV RX7 217 RJ4 yJ4_setLength_d00df wsJ4_setLength_d00df) := goodIn_app (goodIn_of _ (by decide +kernel)) ggX7_runScript_J4_setLength_d00df
set_option maxRecDepth 20000 in
theorem ggX7_runScript_X4_copyFrom : GoodIn wsX7_runScript wsX4_copyFrom := goodIn_r _ [204, 205, 206, 207, 173, 174, 175, 208, 209, 210, 211, 212, 213, 214, 215, 216, 217, 218, 219, 220, 221, 222, 223, 224, 225, 226, 227, 228, 229, 421, 422, 423, 424, 425, 426, 427, 428, 429, 430, 431, 432, 433, 434, 435, 436, 437, 438] (by decide +kernel) (by decide +kernel)
set_option maxRecDepth 20000 in
theorem gX7_runScript_X4_copyFrom : GoodIn wsX7_runScript (wsV RX7 163 RX4 yX4_copyFrom wsX4_copyFrom) := goodIn_app (goodIn_of _ (by decide +kernel)) ggX7_runScript_X4_copyFrom
set_option maxRecDepth 20000 in
theorem ggX7_runScript_X4_carryOut : GoodIn wsX7_runScript wsX4_carryOut := goodIn_ca (goodIn_r _ [233, 234, 235, 236, 237, 238, 239, 240, 241, 242, 243, 244, 203, 245, 210, 246, 247, 248, 249, 205, 250, 251, 252, 253, 254, 255, 256, 257, 258, 259, 260, 208, 261, 262, 263, 264, 265, 266, 267, 268, 269, 221, 270, 229, 271, 272, 273, 274, 275, 276, 277, 278, 279, 280, 281, 282, 283, 284, 285, 286, 287, 288, 289, 206, 290, 291, 292, 293, 216, 294, 295, 296, 297, 298, 299, 300, 301, 302, 303, 211, 304, 305, 306, 307, 308, 309, 310, 311, 226, 227, 312, 313, 314, 315, 316, 317, 318, 319, 320, 321, 322, 323, 324, 325, 326, 327, 213, 328, 329, 330, 331, 332, 333, 334, 215, 212, 335, 336, 337, 338, 214, 217, 339, 340, 341, 342, 343, 344, 345, 346, 225, 347, 348, 349, 350, 351, 352, 353, 354, 209, 355, 356, 357, 358, 359, 360, 361, 362, 363, 364, 365, 366, 367, 368, 421, 422, 423, 424, 425, 426, 427, 428, 429, 430, 431, 432, 433, 434, 435, 436, 437, 438] (by decide +kernel) (by decide +kernel)) (goodIn_sub (fun _ h => List.mem_cons_of_mem _ (List.mem_append_left _ (List.mem_append_right _ h))) (by decide +kernel))
set_option maxRecDepth 20000 in
theorem gX7_runScript_X4_carryOut : GoodIn wsX7_runScript (wsV RX7 272 RX4 yX4_carryOut wsX4_carryOut) := goodIn_app (goodIn_of _ (by decide +kernel)) ggX7_runScript_X4_carryOut
set_option maxRecDepth 20000 in
theorem ggX7_runScript_X7_takeDraft : GoodIn wsX7_runScript wsX7_takeDraft := goodIn_r _ [372, 373, 8, 7, 374, 375, 376, 377, 378, 379, 380, 381, 382, 383, 384, 385, 201, 202, 203, 204, 205, 206, 207, 173, 174, 175, 208, 209, 210, 211, 212, 213, 214, 215, 216, 217, 218, 219, 220, 221, 222, 223, 224, 225, 226, 227, 228, 229, 200, 386, 387, 388, 389, 390, 391, 392, 393, 394, 439, 440, 421, 422, 423, 424, 425, 426, 427, 428, 429, 430, 431, 432, 433, 434, 435, 436, 437, 438] (by decide +kernel) (by decide +kernel)
set_option maxRecDepth 20000 in
theorem gX7_runScript_X7_takeDraft : GoodIn wsX7_runScript (wsV RX7 277 RX7 yX7_takeDraft wsX7_takeDraft) := goodIn_app (goodIn_of _ (by decide +kernel)) ggX7_runScript_X7_takeDraft
set_option maxRecDepth 20000 in
theorem ggX7_failedCommand_X7_needFound : GoodIn wsX7_failedCommand wsX7_needFound := goodIn_ca (goodIn_r _ [5, 6, 7] (by decide +kernel) (by decide +kernel)) (goodIn_sub (fun _ h => List.mem_cons_of_mem _ (List.mem_append_right _ h)) (by decide +kernel))
set_option maxRecDepth 20000 in
theorem gX7_failedCommand_X7_needFound : GoodIn wsX7_failedCommand (va_wsS RX7 125 yX7_needFound wsX7_needFound) := goodIn_app (goodIn_of _ (by decide +kernel)) ggX7_failedCommand_X7_needFound
set_option maxRecDepth 20000 in
theorem ggX7_undo_X2_giveBack : GoodIn wsX7_undo wsX2_giveBack := goodIn_r _ [9, 10, 11, 12, 13, 14, 15, 16, 17, 18, 19, 20, 21, 22, 23, 24, 25, 26, 27, 28, 29, 30, 31, 32, 33, 34, 35, 36, 37, 38, 39, 40, 41, 42, 43, 44, 54, 55, 56, 57, 58, 59, 60, 61, 62, 63, 64, 65, 66, 67, 68, 69, 70, 71, 72, 73] (by decide +kernel) (by decide +kernel)
set_option maxRecDepth 20000 in
theorem gX7_undo_X2_giveBack : GoodIn wsX7_undo (wsV RX7 280 RX2 yX2_giveBack wsX2_giveBack) := goodIn_app (goodIn_of _ (by decide +kernel)) ggX7_undo_X2_giveBack
set_option maxRecDepth 20000 in
theorem ggX7_save_X4_copyFrom : GoodIn wsX7_save wsX4_copyFrom := goodIn_r _ [8, 9, 10, 11, 12, 13, 14, 15, 16, 17, 18, 19, 20, 21, 22, 23, 24, 25, 26, 27, 28, 29, 30, 31, 32, 33, 34, 35, 36, 46, 47, 48, 49, 50, 51, 52, 53, 54, 55, 56, 57, 58, 59, 60, 61, 62, 63] (by decide +kernel) (by decide +kernel)
set_option maxRecDepth 20000 in
theorem gX7_save_X4_copyFrom : GoodIn wsX7_save (wsV RX7 163 RX4 yX4_copyFrom wsX4_copyFrom) := goodIn_app (goodIn_of _ (by decide +kernel)) ggX7_save_X4_copyFrom
set_option maxRecDepth 20000 in
theorem ggX7_restore_X4_copyFrom : GoodIn wsX7_restore wsX4_copyFrom := goodIn_r _ [11, 12, 13, 14, 15, 16, 17, 18, 19, 20, 21, 22, 23, 24, 25, 26, 27, 28, 29, 30, 31, 32, 33, 34, 35, 36, 37, 38, 39, 51, 52, 53, 54, 55, 56, 57, 58, 59, 60, 61, 62, 63, 64, 65, 66, 67, 68] (by decide +kernel) (by decide +kernel)
set_option maxRecDepth 20000 in
theorem gX7_restore_X4_copyFrom : GoodIn wsX7_restore (wsV RX7 163 RX4 yX4_copyFrom wsX4_copyFrom) := goodIn_app (goodIn_of _ (by decide +kernel)) ggX7_restore_X4_copyFrom
set_option maxRecDepth 20000 in
theorem ggX7_change_X4_copyFrom : GoodIn wsX7_change wsX4_copyFrom := goodIn_r _ [7, 8, 9, 10, 11, 12, 13, 14, 15, 16, 17, 18, 19, 20, 21, 22, 23, 24, 25, 26, 27, 28, 29, 30, 31, 32, 33, 34, 35, 214, 215, 216, 217, 218, 219, 220, 221, 222, 223, 224, 225, 226, 227, 228, 229, 230, 231] (by decide +kernel) (by decide +kernel)
set_option maxRecDepth 20000 in
theorem gX7_change_X4_copyFrom : GoodIn wsX7_change (wsV RX7 163 RX4 yX4_copyFrom wsX4_copyFrom) := goodIn_app (goodIn_of _ (by decide +kernel)) ggX7_change_X4_copyFrom
set_option maxRecDepth 20000 in
theorem ggX7_change_X4_carryOut : GoodIn wsX7_change wsX4_carryOut := goodIn_ca (goodIn_r _ [39, 40, 41, 42, 43, 44, 45, 46, 47, 48, 49, 50, 6, 51, 16, 52, 53, 54, 55, 8, 56, 57, 58, 59, 60, 61, 62, 63, 64, 65, 66, 14, 67, 68, 69, 70, 71, 72, 73, 74, 75, 27, 76, 35, 77, 78, 79, 80, 81, 82, 83, 84, 85, 86, 87, 88, 89, 90, 91, 92, 93, 94, 95, 9, 96, 97, 98, 99, 22, 100, 101, 102, 103, 104, 105, 106, 107, 108, 109, 17, 110, 111, 112, 113, 114, 115, 116, 117, 32, 33, 118, 119, 120, 121, 122, 123, 124, 125, 126, 127, 128, 129, 130, 131, 132, 133, 19, 134, 135, 136, 137, 138, 139, 140, 21, 18, 141, 142, 143, 144, 20, 23, 145, 146, 147, 148, 149, 150, 151, 152, 31, 153, 154, 155, 156, 157, 158, 159, 160, 15, 161, 162, 163, 164, 165, 166, 167, 168, 169, 170, 171, 172, 173, 174, 214, 215, 216, 217, 218, 219, 220, 221, 222, 223, 224, 225, 226, 227, 228, 229, 230, 231] (by decide +kernel) (by decide +kernel)) (goodIn_sub (fun _ h => List.mem_cons_of_mem _ (List.mem_append_left _ (List.mem_append_left _ (List.mem_append_left _ (List.mem_append_left _ (List.mem_append_left _ (List.mem_append_right _ h))))))) (by decide +kernel))
set_option maxRecDepth 20000 in
theorem gX7_change_X4_carryOut : GoodIn wsX7_change (wsV RX7 272 RX4 yX4_carryOut wsX4_carryOut) := goodIn_app (goodIn_of _ (by decide +kernel)) ggX7_change_X4_carryOut
set_option maxRecDepth 20000 in
theorem ggX7_change_X7_refuse : GoodIn wsX7_change wsX7_refuse := goodIn_ca (goodIn_ca (goodIn_ca (goodIn_ca (goodIn_ca (goodIn_r _ [177, 178, 179, 180, 181, 182, 183, 184, 185, 186, 187] (by decide +kernel) (by decide +kernel)) (goodIn_sub (fun _ h => List.mem_cons_of_mem _ (List.mem_append_left _ (List.mem_append_left _ (List.mem_append_left _ (List.mem_append_left _ (List.mem_append_right _ h)))))) (by decide +kernel))) (goodIn_sub (fun _ h => List.mem_cons_of_mem _ (List.mem_append_left _ (List.mem_append_left _ (List.mem_append_left _ (List.mem_append_right _ h))))) (by decide +kernel))) (goodIn_sub (fun _ h => List.mem_cons_of_mem _ (List.mem_append_left _ (List.mem_append_left _ (List.mem_append_right _ h)))) (by decide +kernel))) (goodIn_sub (fun _ h => List.mem_cons_of_mem _ (List.mem_append_left _ (List.mem_append_right _ h))) (by decide +kernel))) (goodIn_sub (fun _ h => List.mem_cons_of_mem _ (List.mem_append_right _ h)) (by decide +kernel))
set_option maxRecDepth 20000 in
theorem gX7_change_X7_refuse : GoodIn wsX7_change (va_wsS RX7 298 yX7_refuse wsX7_refuse) := goodIn_app (goodIn_of _ (by decide +kernel)) ggX7_change_X7_refuse
set_option maxRecDepth 20000 in
theorem ggX7_change_X7_takeDraft : GoodIn wsX7_change wsX7_takeDraft := goodIn_r _ [191, 192, 2, 1, 193, 194, 195, 196, 197, 198, 199, 200, 201, 202, 203, 204, 4, 5, 6, 7, 8, 9, 10, 11, 12, 13, 14, 15, 16, 17, 18, 19, 20, 21, 22, 23, 24, 25, 26, 27, 28, 29, 30, 31, 32, 33, 34, 35, 3, 205, 206, 207, 208, 209, 210, 211, 212, 213, 232, 233, 214, 215, 216, 217, 218, 219, 220, 221, 222, 223, 224, 225, 226, 227, 228, 229, 230, 231] (by decide +kernel) (by decide +kernel)
set_option maxRecDepth 20000 in
theorem gX7_change_X7_takeDraft : GoodIn wsX7_change (wsV RX7 277 RX7 yX7_takeDraft wsX7_takeDraft) := goodIn_app (goodIn_of _ (by decide +kernel)) ggX7_change_X7_takeDraft
set_option maxRecDepth 20000 in
theorem ggX7_takeDraft_X2_keep : GoodIn wsX7_takeDraft wsX2_keep := goodIn_r _ [8, 9, 10, 11, 12, 13, 7, 14, 15, 16, 17, 18, 19, 20, 21, 22, 23, 24, 25, 26, 27, 28, 29, 30, 31, 32, 33, 34, 35, 36, 37, 38, 39, 40, 41, 42, 43, 44, 45, 46, 47, 58, 59, 60, 61, 62, 63, 64, 65, 66, 67, 68, 69, 70, 71, 72, 73, 74, 75, 76, 77] (by decide +kernel) (by decide +kernel)
set_option maxRecDepth 20000 in
theorem gX7_takeDraft_X2_keep : GoodIn wsX7_takeDraft (wsV RX7 301 RX2 yX2_keep wsX2_keep) := goodIn_app (goodIn_of _ (by decide +kernel)) ggX7_takeDraft_X2_keep
set_option maxRecDepth 20000 in
theorem ggX7_takeDraft_X4_copyFrom : GoodIn wsX7_takeDraft wsX4_copyFrom := goodIn_r _ [19, 20, 21, 22, 23, 24, 25, 26, 27, 28, 29, 30, 31, 32, 33, 34, 35, 36, 37, 38, 39, 40, 41, 42, 43, 44, 45, 46, 47, 60, 61, 62, 63, 64, 65, 66, 67, 68, 69, 70, 71, 72, 73, 74, 75, 76, 77] (by decide +kernel) (by decide +kernel)
set_option maxRecDepth 20000 in
theorem gX7_takeDraft_X4_copyFrom : GoodIn wsX7_takeDraft (wsV RX7 163 RX4 yX4_copyFrom wsX4_copyFrom) := goodIn_app (goodIn_of _ (by decide +kernel)) ggX7_takeDraft_X4_copyFrom
set_option maxRecDepth 20000 in
theorem ggX7_needTruck_X4_isTruck : GoodIn wsX7_needTruck wsX4_isTruck := goodIn_r _ [8, 9, 19, 20, 21, 22, 23, 24, 25, 26, 27, 28, 29, 30] (by decide +kernel) (by decide +kernel)
set_option maxRecDepth 20000 in
theorem gX7_needTruck_X4_isTruck : GoodIn wsX7_needTruck (wsV RX7 317 RX4 yX4_isTruck wsX4_isTruck) := goodIn_app (goodIn_of _ (by decide +kernel)) ggX7_needTruck_X4_isTruck
set_option maxRecDepth 20000 in
theorem ggX7_needDish_X7_isDish : GoodIn wsX7_needDish wsX7_isDish := goodIn_r _ [6] (by decide +kernel) (by decide +kernel)
set_option maxRecDepth 20000 in
theorem gX7_needDish_X7_isDish : GoodIn wsX7_needDish (va_wsS RX7 322 yX7_isDish wsX7_isDish) := goodIn_app (goodIn_of _ (by decide +kernel)) ggX7_needDish_X7_isDish
set_option maxRecDepth 20000 in
theorem ggX7_needPitch_X7_isPitch : GoodIn wsX7_needPitch wsX7_isPitch := goodIn_r _ [6] (by decide +kernel) (by decide +kernel)
set_option maxRecDepth 20000 in
theorem gX7_needPitch_X7_isPitch : GoodIn wsX7_needPitch (va_wsS RX7 327 yX7_isPitch wsX7_isPitch) := goodIn_app (goodIn_of _ (by decide +kernel)) ggX7_needPitch_X7_isPitch
set_option maxRecDepth 20000 in
theorem ggX7_needWeekday_X7_isWeekday : GoodIn wsX7_needWeekday wsX7_isWeekday := goodIn_r _ [6] (by decide +kernel) (by decide +kernel)
set_option maxRecDepth 20000 in
theorem gX7_needWeekday_X7_isWeekday : GoodIn wsX7_needWeekday (va_wsS RX7 332 yX7_isWeekday wsX7_isWeekday) := goodIn_app (goodIn_of _ (by decide +kernel)) ggX7_needWeekday_X7_isWeekday
