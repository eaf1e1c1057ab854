theorem goodIn_c {big a : List Cond} {c : Cond} (hc : c ∈ big) (hg : goodWord c = true) (ha : GoodIn big a) : GoodIn big (c :: a) := fun w h => (List.mem_cons.mp h).elim (fun e => e ▸ ⟨hc, good_of_word hg⟩) (ha w)
set_option maxRecDepth 20000 in
theorem ggL_areMeters_X6_count : GoodIn wsL_areMeters wsX6_count := goodIn_r _ [7, 8, 9, 10, 11, 12, 13, 14, 15, 16, 17, 18, 19, 6, 20, 21, 22, 23, 24, 25, 26, 27, 28, 29, 30, 31, 32, 33, 34, 35, 36, 37, 38, 39, 40, 41, 42, 43, 44, 45, 46, 47, 48, 49, 50, 51, 147, 148, 149, 150, 151, 152, 153, 154, 155, 156, 157, 158, 159, 160, 161, 162, 163, 164, 165, 166, 167, 168, 169, 170, 171, 172, 173, 174, 175, 176, 177, 178, 179, 180] (by decide +kernel) (by decide +kernel)
set_option maxRecDepth 20000 in
theorem gL_areMeters_X6_count : GoodIn wsL_areMeters (wsV RL 8 RX6 yX6_count wsX6_count) := goodIn_app (goodIn_of _ (by decide +kernel)) ggL_areMeters_X6_count
set_option maxRecDepth 20000 in
theorem ggL_areMeters_X6_ofLoad : GoodIn wsL_areMeters wsX6_ofLoad := goodIn_r _ [55, 8, 56, 57, 58, 59, 60, 61, 24, 62, 26, 27, 147, 148, 149, 150, 151, 152, 165, 166, 167, 153, 154, 155, 156, 157, 158, 159] (by decide +kernel) (by decide +kernel)
set_option maxRecDepth 20000 in
theorem gL_areMeters_X6_ofLoad : GoodIn wsL_areMeters (wsV RL 14 RX6 yX6_ofLoad wsX6_ofLoad) := goodIn_app (goodIn_of _ (by decide +kernel)) ggL_areMeters_X6_ofLoad
set_option maxRecDepth 20000 in
theorem ggL_areMeters_X6_of : GoodIn wsL_areMeters wsX6_of := goodIn_r _ [66, 8, 67, 68, 69, 70, 71, 72, 73, 74, 75, 76, 13, 77, 78, 79, 80, 24, 81, 33, 34, 82, 83, 84, 85, 26, 27, 28, 86, 87, 88, 89, 90, 91, 92, 93, 94, 95, 96, 97, 98, 43, 99, 100, 101, 102, 103, 104, 105, 106, 107, 108, 109, 147, 148, 149, 150, 151, 152, 168, 169, 170, 171, 172, 173, 174, 175, 176, 177, 178, 179, 180, 153, 154, 155, 156, 157, 158, 159, 165, 166, 167] (by decide +kernel) (by decide +kernel)
set_option maxRecDepth 20000 in
theorem gL_areMeters_X6_of : GoodIn wsL_areMeters (wsV RL 18 RX6 yX6_of wsX6_of) := goodIn_app (goodIn_of _ (by decide +kernel)) ggL_areMeters_X6_of
set_option maxRecDepth 20000 in
theorem ggL_areMeters_X6_fed : GoodIn wsL_areMeters wsX6_fed := goodIn_r _ [113, 8, 78, 79, 80, 24, 81, 33, 34, 114, 89, 90, 91, 92, 93, 94, 95, 147, 148, 149, 150, 151, 152, 153, 154, 155, 156, 157, 158, 159, 168, 169, 170, 171, 172, 173, 174, 175, 176, 177, 178, 179, 180] (by decide +kernel) (by decide +kernel)
set_option maxRecDepth 20000 in
theorem gL_areMeters_X6_fed : GoodIn wsL_areMeters (wsV RL 21 RX6 yX6_fed wsX6_fed) := goodIn_app (goodIn_of _ (by decide +kernel)) ggL_areMeters_X6_fed
set_option maxRecDepth 20000 in
theorem ggL_areMeters_X6_lags : GoodIn wsL_areMeters wsX6_lags := goodIn_r _ [118, 8, 119, 78, 79, 80, 24, 81, 33, 34, 120, 121, 122, 123, 92, 40, 41, 42, 43, 44, 45, 46, 147, 148, 149, 150, 151, 152, 153, 154, 155, 156, 157, 158, 159, 168, 169, 170, 171, 172, 173, 174, 175, 176, 177, 178, 179, 180] (by decide +kernel) (by decide +kernel)
set_option maxRecDepth 20000 in
theorem gL_areMeters_X6_lags : GoodIn wsL_areMeters (wsV RL 24 RX6 yX6_lags wsX6_lags) := goodIn_app (goodIn_of _ (by decide +kernel)) ggL_areMeters_X6_lags
set_option maxRecDepth 20000 in
theorem ggL_areMeters_X6_misses : GoodIn wsL_areMeters wsX6_misses := goodIn_r _ [127, 8, 128, 129, 78, 79, 80, 24, 81, 33, 34, 130, 131, 132, 43, 133, 134, 135, 136, 137, 41, 42, 44, 45, 46, 147, 148, 149, 150, 151, 152, 153, 154, 155, 156, 157, 158, 159, 168, 169, 170, 171, 172, 173, 174, 175, 176, 177, 178, 179, 180] (by decide +kernel) (by decide +kernel)
set_option maxRecDepth 20000 in
theorem gL_areMeters_X6_misses : GoodIn wsL_areMeters (wsV RL 28 RX6 yX6_misses wsX6_misses) := goodIn_app (goodIn_of _ (by decide +kernel)) ggL_areMeters_X6_misses
set_option maxRecDepth 20000 in
theorem ggL_areMeters_X6_worst : GoodIn wsL_areMeters wsX6_worst := goodIn_r _ [141, 8, 142, 143, 144, 24, 145, 33, 34, 146, 131, 132, 43, 133, 134, 135, 136, 137, 41, 42, 44, 45, 46, 147, 148, 149, 150, 151, 152, 153, 154, 155, 156, 157, 158, 159, 168, 169, 170, 171, 172, 173, 174, 175, 176, 177, 178, 179, 180] (by decide +kernel) (by decide +kernel)
set_option maxRecDepth 20000 in
theorem gL_areMeters_X6_worst : GoodIn wsL_areMeters (wsV RL 32 RX6 yX6_worst wsX6_worst) := goodIn_app (goodIn_of _ (by decide +kernel)) ggL_areMeters_X6_worst
set_option maxRecDepth 20000 in
theorem ggL_passes_X6_count : GoodIn wsL_passes wsX6_count := goodIn_r _ [8, 9, 10, 11, 12, 13, 14, 15, 16, 17, 18, 19, 20, 7, 21, 22, 23, 24, 25, 26, 27, 28, 29, 30, 31, 32, 33, 34, 35, 36, 37, 38, 39, 40, 41, 42, 43, 44, 45, 46, 47, 48, 49, 50, 51, 52, 207, 208, 209, 210, 211, 212, 213, 214, 215, 216, 217, 218, 219, 220, 221, 222, 223, 224, 225, 226, 227, 228, 229, 230, 231, 232, 233, 234, 235, 236, 237, 238, 239, 240] (by decide +kernel) (by decide +kernel)
set_option maxRecDepth 20000 in
theorem gL_passes_X6_count : GoodIn wsL_passes (wsV RL 8 RX6 yX6_count wsX6_count) := goodIn_app (goodIn_of _ (by decide +kernel)) ggL_passes_X6_count
set_option maxRecDepth 20000 in
theorem ggL_passes_X6_pass : GoodIn wsL_passes wsX6_pass := goodIn_r _ [56, 17, 9, 57, 58, 59, 60, 61, 62, 63, 64, 65, 66, 25, 67, 68, 34, 35, 27, 28, 69, 70, 71, 72, 73, 44, 74, 75, 76, 77, 78, 46, 47, 79, 80, 81, 82, 83, 84, 85, 86, 87, 88, 89, 90, 91, 92, 93, 94, 95, 96, 97, 98, 99, 100, 101, 102, 29, 103, 104, 105, 106, 107, 108, 109, 110, 111, 112, 113, 114, 115, 116, 117, 118, 119, 120, 121, 122, 123, 124, 7, 125, 126, 127, 128, 129, 130, 20, 21, 131, 132, 133, 134, 135, 136, 137, 138, 139, 140, 141, 142, 143, 144, 145, 207, 208, 209, 210, 211, 212, 222, 223, 224, 213, 214, 215, 216, 217, 218, 219, 228, 229, 230, 231, 232, 233, 234, 235, 236, 237, 238, 239, 240, 225, 226, 227] (by decide +kernel) (by decide +kernel)
set_option maxRecDepth 20000 in
theorem gL_passes_X6_pass : GoodIn wsL_passes (wsV RL 38 RX6 yX6_pass wsX6_pass) := goodIn_app (goodIn_of _ (by decide +kernel)) ggL_passes_X6_pass
set_option maxRecDepth 20000 in
theorem ggL_passes_X6_worst : GoodIn wsL_passes wsX6_worst := goodIn_r _ [149, 9, 150, 151, 152, 25, 153, 34, 35, 154, 155, 156, 44, 157, 81, 158, 76, 159, 42, 43, 45, 46, 47, 207, 208, 209, 210, 211, 212, 213, 214, 215, 216, 217, 218, 219, 228, 229, 230, 231, 232, 233, 234, 235, 236, 237, 238, 239, 240] (by decide +kernel) (by decide +kernel)
set_option maxRecDepth 20000 in
theorem gL_passes_X6_worst : GoodIn wsL_passes (wsV RL 32 RX6 yX6_worst wsX6_worst) := goodIn_app (goodIn_of _ (by decide +kernel)) ggL_passes_X6_worst
set_option maxRecDepth 20000 in
theorem ggL_passes_X6_wouldTurn : GoodIn wsL_passes wsX6_wouldTurn := goodIn_r _ [163, 9, 164, 165, 166, 167, 168, 169, 25, 170, 34, 35, 171, 72, 73, 44, 74, 75, 76, 77, 78, 46, 47, 79, 80, 81, 82, 83, 84, 85, 172, 100, 101, 102, 27, 28, 29, 103, 104, 105, 106, 107, 108, 109, 110, 111, 112, 173, 114, 115, 116, 69, 68, 117, 118, 119, 120, 121, 122, 123, 124, 7, 125, 126, 127, 128, 129, 130, 20, 21, 131, 132, 133, 134, 135, 136, 137, 138, 139, 207, 208, 209, 210, 211, 212, 228, 229, 230, 231, 232, 233, 234, 235, 236, 237, 238, 239, 240, 213, 214, 215, 216, 217, 218, 219, 225, 226, 227] (by decide +kernel) (by decide +kernel)
set_option maxRecDepth 20000 in
theorem gL_passes_X6_wouldTurn : GoodIn wsL_passes (wsV RL 41 RX6 yX6_wouldTurn wsX6_wouldTurn) := goodIn_app (goodIn_of _ (by decide +kernel)) ggL_passes_X6_wouldTurn
set_option maxRecDepth 20000 in
theorem ggL_passes_X6_of : GoodIn wsL_passes wsX6_of := goodIn_r _ [177, 9, 178, 179, 180, 166, 165, 181, 182, 183, 184, 185, 14, 186, 167, 168, 169, 25, 170, 34, 35, 172, 100, 101, 102, 27, 28, 29, 103, 104, 105, 106, 107, 108, 109, 110, 111, 112, 187, 188, 189, 44, 190, 77, 191, 127, 128, 129, 78, 130, 122, 119, 123, 207, 208, 209, 210, 211, 212, 228, 229, 230, 231, 232, 233, 234, 235, 236, 237, 238, 239, 240, 213, 214, 215, 216, 217, 218, 219, 225, 226, 227] (by decide +kernel) (by decide +kernel)
set_option maxRecDepth 20000 in
theorem gL_passes_X6_of : GoodIn wsL_passes (wsV RL 18 RX6 yX6_of wsX6_of) := goodIn_app (goodIn_of _ (by decide +kernel)) ggL_passes_X6_of
set_option maxRecDepth 20000 in
theorem ggL_passes_X6_turnsIn : GoodIn wsL_passes wsX6_turnsIn := goodIn_r _ [195, 9, 164, 167, 168, 169, 25, 170, 34, 35, 171, 72, 73, 44, 74, 75, 76, 77, 78, 46, 47, 79, 80, 81, 82, 83, 84, 85, 172, 100, 101, 102, 27, 28, 29, 103, 104, 105, 106, 107, 108, 109, 110, 111, 112, 196, 197, 198, 199, 68, 69, 20, 7, 21, 131, 132, 133, 134, 135, 118, 119, 120, 136, 137, 138, 139, 207, 208, 209, 210, 211, 212, 213, 214, 215, 216, 217, 218, 219, 228, 229, 230, 231, 232, 233, 234, 235, 236, 237, 238, 239, 240, 225, 226, 227] (by decide +kernel) (by decide +kernel)
set_option maxRecDepth 20000 in
theorem gL_passes_X6_turnsIn : GoodIn wsL_passes (wsV RL 45 RX6 yX6_turnsIn wsX6_turnsIn) := goodIn_app (goodIn_of _ (by decide +kernel)) ggL_passes_X6_turnsIn
set_option maxRecDepth 20000 in
theorem ggL_passes_X6_misses : GoodIn wsL_passes wsX6_misses := goodIn_r _ [203, 9, 204, 205, 167, 168, 169, 25, 170, 34, 35, 206, 155, 156, 44, 157, 81, 158, 76, 159, 42, 43, 45, 46, 47, 207, 208, 209, 210, 211, 212, 213, 214, 215, 216, 217, 218, 219, 228, 229, 230, 231, 232, 233, 234, 235, 236, 237, 238, 239, 240] (by decide +kernel) (by decide +kernel)
set_option maxRecDepth 20000 in
theorem gL_passes_X6_misses : GoodIn wsL_passes (wsV RL 28 RX6 yX6_misses wsX6_misses) := goodIn_app (goodIn_of _ (by decide +kernel)) ggL_passes_X6_misses
set_option maxRecDepth 20000 in
theorem ggL_isVisited_X6_bill : GoodIn wsL_isVisited wsX6_bill := goodIn_r _ [5, 6, 7, 8, 9, 10, 11, 12, 13, 14, 15, 16, 17, 18, 19, 20, 21, 22, 23, 24, 25, 26, 27, 28, 29, 30, 31, 186, 187, 188, 189, 190, 191, 192, 193, 194, 195, 196, 197, 198, 199, 200, 201, 202, 203, 204, 205, 206, 207, 208, 209, 210, 211] (by decide +kernel) (by decide +kernel)
set_option maxRecDepth 20000 in
theorem gL_isVisited_X6_bill : GoodIn wsL_isVisited (wsV RL 54 RX6 yX6_bill wsX6_bill) := goodIn_app (goodIn_of _ (by decide +kernel)) ggL_isVisited_X6_bill
set_option maxRecDepth 20000 in
theorem ggL_isVisited_X6_of : GoodIn wsL_isVisited wsX6_of := goodIn_r _ [35, 6, 36, 37, 38, 39, 40, 41, 42, 43, 44, 45, 46, 47, 7, 8, 9, 10, 11, 12, 13, 48, 49, 50, 51, 52, 53, 54, 55, 56, 57, 58, 59, 60, 61, 62, 63, 64, 65, 66, 67, 22, 68, 69, 70, 71, 72, 73, 74, 75, 76, 77, 78, 186, 187, 188, 189, 190, 191, 199, 200, 201, 202, 203, 204, 205, 206, 207, 208, 209, 210, 211, 192, 193, 194, 195, 196, 197, 198, 212, 213, 214] (by decide +kernel) (by decide +kernel)
set_option maxRecDepth 20000 in
theorem gL_isVisited_X6_of : GoodIn wsL_isVisited (wsV RL 18 RX6 yX6_of wsX6_of) := goodIn_app (goodIn_of _ (by decide +kernel)) ggL_isVisited_X6_of
set_option maxRecDepth 20000 in
theorem ggL_isVisited_X6_count : GoodIn wsL_isVisited wsX6_count := goodIn_r _ [82, 6, 83, 84, 85, 86, 46, 87, 88, 89, 90, 91, 92, 4, 93, 94, 95, 96, 10, 97, 52, 53, 54, 98, 99, 100, 101, 12, 13, 102, 103, 104, 105, 106, 107, 108, 109, 22, 110, 24, 30, 111, 112, 113, 114, 115, 186, 187, 188, 189, 190, 191, 192, 193, 194, 195, 196, 197, 198, 215, 216, 217, 218, 219, 212, 213, 214, 199, 200, 201, 202, 203, 204, 205, 206, 207, 208, 209, 210, 211] (by decide +kernel) (by decide +kernel)
set_option maxRecDepth 20000 in
theorem gL_isVisited_X6_count : GoodIn wsL_isVisited (wsV RL 8 RX6 yX6_count wsX6_count) := goodIn_app (goodIn_of _ (by decide +kernel)) ggL_isVisited_X6_count
set_option maxRecDepth 20000 in
theorem ggL_isVisited_X6_misses : GoodIn wsL_isVisited wsX6_misses := goodIn_r _ [119, 6, 120, 121, 7, 8, 9, 10, 11, 12, 13, 122, 123, 124, 22, 125, 126, 127, 128, 129, 108, 109, 110, 24, 30, 186, 187, 188, 189, 190, 191, 192, 193, 194, 195, 196, 197, 198, 199, 200, 201, 202, 203, 204, 205, 206, 207, 208, 209, 210, 211] (by decide +kernel) (by decide +kernel)
set_option maxRecDepth 20000 in
theorem gL_isVisited_X6_misses : GoodIn wsL_isVisited (wsV RL 28 RX6 yX6_misses wsX6_misses) := goodIn_app (goodIn_of _ (by decide +kernel)) ggL_isVisited_X6_misses
set_option maxRecDepth 20000 in
theorem ggL_isVisited_X6_visit : GoodIn wsL_isVisited wsX6_visit := goodIn_r _ [133, 89, 6, 134, 135, 136, 137, 138, 139, 140, 141, 142, 143, 10, 144, 18, 12, 13, 52, 53, 145, 146, 147, 148, 149, 22, 150, 151, 128, 69, 74, 24, 30, 25, 31, 126, 152, 153, 154, 155, 156, 157, 158, 159, 160, 161, 162, 163, 164, 165, 166, 167, 102, 168, 8, 9, 11, 169, 15, 16, 17, 19, 20, 21, 23, 26, 27, 28, 29, 170, 171, 172, 173, 174, 175, 176, 177, 178, 179, 180, 181, 182, 183, 184, 77, 185, 186, 187, 188, 189, 190, 191, 217, 218, 219, 192, 193, 194, 195, 196, 197, 198, 199, 200, 201, 202, 203, 204, 205, 206, 207, 208, 209, 210, 211, 212, 213, 214] (by decide +kernel) (by decide +kernel)
set_option maxRecDepth 20000 in
theorem gL_isVisited_X6_visit : GoodIn wsL_isVisited (wsV RL 57 RX6 yX6_visit wsX6_visit) := goodIn_app (goodIn_of _ (by decide +kernel)) ggL_isVisited_X6_visit
set_option maxRecDepth 20000 in
theorem ggL_isWritten_X6_write : GoodIn wsL_isWritten wsX6_write := goodIn_r _ [5, 6, 7, 8, 9, 10, 11, 12, 13, 14, 15, 16, 17, 18, 19, 20, 21, 22, 23, 24, 25, 26, 27, 28, 29, 30, 31, 32, 33, 34, 113, 114, 115, 116, 117, 118, 119, 120, 121, 122, 123, 124, 125, 126, 127, 128, 129, 130, 131, 132, 133, 134, 135, 136, 137, 138, 139, 140] (by decide +kernel) (by decide +kernel)
set_option maxRecDepth 20000 in
theorem gL_isWritten_X6_write : GoodIn wsL_isWritten (wsV RL 60 RX6 yX6_write wsX6_write) := goodIn_app (goodIn_of _ (by decide +kernel)) ggL_isWritten_X6_write
set_option maxRecDepth 20000 in
theorem ggL_isWritten_X6_sign : GoodIn wsL_isWritten wsX6_sign := goodIn_r _ [38, 7, 39, 40, 41, 23, 42, 25, 30, 113, 114, 115, 116, 117, 118, 132, 133] (by decide +kernel) (by decide +kernel)
set_option maxRecDepth 20000 in
theorem gL_isWritten_X6_sign : GoodIn wsL_isWritten (wsV RL 63 RX6 yX6_sign wsX6_sign) := goodIn_app (goodIn_of _ (by decide +kernel)) ggL_isWritten_X6_sign
set_option maxRecDepth 20000 in
theorem ggL_isWritten_X6_fault : GoodIn wsL_isWritten wsX6_fault := goodIn_r _ [46, 7, 47, 48, 49, 50, 51, 52, 40, 41, 23, 42, 25, 30, 53, 54, 55, 56, 57, 58, 59, 60, 61, 62, 63, 64, 113, 114, 115, 116, 117, 118, 132, 133] (by decide +kernel) (by decide +kernel)
set_option maxRecDepth 20000 in
theorem gL_isWritten_X6_fault : GoodIn wsL_isWritten (wsV RL 66 RX6 yX6_fault wsX6_fault) := goodIn_app (goodIn_of _ (by decide +kernel)) ggL_isWritten_X6_fault
set_option maxRecDepth 20000 in
theorem ggL_isWritten_X6_of : GoodIn wsL_isWritten wsX6_of := goodIn_r _ [68, 6, 69, 70, 71, 8, 9, 72, 73, 10, 11, 74, 75, 76, 13, 14, 15, 16, 17, 18, 19, 77, 78, 79, 80, 81, 82, 83, 84, 85, 86, 87, 88, 89, 90, 91, 92, 93, 94, 95, 96, 97, 98, 99, 100, 101, 102, 103, 104, 105, 106, 107, 108, 113, 114, 115, 116, 117, 118, 119, 120, 121, 122, 123, 124, 125, 126, 127, 128, 129, 130, 131, 134, 135, 136, 137, 138, 139, 140, 141, 142, 143] (by decide +kernel) (by decide +kernel)
set_option maxRecDepth 20000 in
theorem gL_isWritten_X6_of : GoodIn wsL_isWritten (wsV RL 18 RX6 yX6_of wsX6_of) := goodIn_app (goodIn_of _ (by decide +kernel)) ggL_isWritten_X6_of
set_option maxRecDepth 20000 in
theorem ggL_isWritten_X6_wipe : GoodIn wsL_isWritten wsX6_wipe := goodIn_r _ [112, 7, 12, 20, 21, 22, 23, 24, 25, 113, 114, 115, 116, 117, 118, 132, 133] (by decide +kernel) (by decide +kernel)
set_option maxRecDepth 20000 in
theorem gL_isWritten_X6_wipe : GoodIn wsL_isWritten (wsV RL 69 RX6 yX6_wipe wsX6_wipe) := goodIn_app (goodIn_of _ (by decide +kernel)) ggL_isWritten_X6_wipe
set_option maxRecDepth 20000 in
theorem ggL_does_X6_count : GoodIn wsL_does wsX6_count := goodIn_r _ [5, 6, 7, 8, 9, 10, 11, 12, 13, 14, 15, 16, 17, 4, 18, 19, 20, 21, 22, 23, 24, 25, 26, 27, 28, 29, 30, 31, 32, 33, 34, 35, 36, 37, 38, 39, 40, 41, 42, 43, 44, 45, 46, 47, 48, 49, 369, 370, 371, 372, 373, 374, 375, 376, 377, 378, 379, 380, 381, 382, 383, 384, 385, 386, 387, 388, 389, 390, 391, 392, 393, 394, 395, 396, 397, 398, 399, 400, 401, 402] (by decide +kernel) (by decide +kernel)
set_option maxRecDepth 20000 in
theorem gL_does_X6_count : GoodIn wsL_does (wsV RL 8 RX6 yX6_count wsX6_count) := goodIn_app (goodIn_of _ (by decide +kernel)) ggL_does_X6_count
set_option maxRecDepth 20000 in
theorem ggL_does_L_low : GoodIn wsL_does wsL_low := goodIn_r _ [53, 54] (by decide +kernel) (by decide +kernel)
set_option maxRecDepth 20000 in
theorem gL_does_L_low : GoodIn wsL_does (va_wsS RL 72 yL_low wsL_low) := goodIn_app (goodIn_of _ (by decide +kernel)) ggL_does_L_low
set_option maxRecDepth 20000 in
theorem ggL_does_X6_meter : GoodIn wsL_does wsX6_meter := goodIn_r _ [58, 14, 6, 59, 60, 61, 62, 63, 64, 65, 66, 67, 68, 22, 69, 70, 31, 32, 24, 25, 71, 72, 73, 74, 75, 41, 76, 77, 78, 79, 80, 43, 44, 81, 82, 83, 84, 85, 86, 87, 88, 89, 90, 91, 92, 93, 94, 95, 96, 97, 98, 99, 100, 101, 102, 103, 104, 105, 106, 107, 108, 109, 110, 111, 112, 113, 114, 115, 116, 369, 370, 371, 372, 373, 374, 384, 385, 386, 375, 376, 377, 378, 379, 380, 381, 390, 391, 392, 393, 394, 395, 396, 397, 398, 399, 400, 401, 402, 387, 388, 389] (by decide +kernel) (by decide +kernel)
set_option maxRecDepth 20000 in
theorem gL_does_X6_meter : GoodIn wsL_does (wsV RL 77 RX6 yX6_meter wsX6_meter) := goodIn_app (goodIn_of _ (by decide +kernel)) ggL_does_X6_meter
set_option maxRecDepth 20000 in
theorem ggL_does_X6_of : GoodIn wsL_does wsX6_of := goodIn_r _ [120, 6, 121, 122, 123, 124, 125, 126, 127, 128, 129, 130, 11, 131, 132, 101, 102, 22, 103, 31, 32, 133, 134, 135, 136, 24, 25, 26, 137, 138, 139, 140, 141, 142, 143, 144, 145, 146, 147, 148, 149, 41, 150, 79, 151, 152, 153, 154, 80, 155, 156, 115, 157, 369, 370, 371, 372, 373, 374, 390, 391, 392, 393, 394, 395, 396, 397, 398, 399, 400, 401, 402, 375, 376, 377, 378, 379, 380, 381, 387, 388, 389] (by decide +kernel) (by decide +kernel)
set_option maxRecDepth 20000 in
theorem gL_does_X6_of : GoodIn wsL_does (wsV RL 18 RX6 yX6_of wsX6_of) := goodIn_app (goodIn_of _ (by decide +kernel)) ggL_does_X6_of
set_option maxRecDepth 20000 in
theorem ggL_does_X6_load : GoodIn wsL_does wsX6_load := goodIn_r _ [161, 14, 6, 59, 60, 61, 62, 63, 64, 65, 66, 67, 68, 22, 69, 70, 31, 32, 24, 25, 71, 72, 73, 74, 75, 41, 76, 77, 78, 79, 80, 43, 44, 81, 82, 83, 84, 85, 86, 87, 88, 89, 90, 91, 92, 93, 94, 95, 162, 163, 164, 165, 100, 101, 102, 103, 166, 167, 168, 169, 108, 109, 110, 111, 112, 113, 114, 115, 116, 369, 370, 371, 372, 373, 374, 384, 385, 386, 375, 376, 377, 378, 379, 380, 381, 390, 391, 392, 393, 394, 395, 396, 397, 398, 399, 400, 401, 402, 387, 388, 389] (by decide +kernel) (by decide +kernel)
set_option maxRecDepth 20000 in
theorem gL_does_X6_load : GoodIn wsL_does (wsV RL 80 RX6 yX6_load wsX6_load) := goodIn_app (goodIn_of _ (by decide +kernel)) ggL_does_X6_load
set_option maxRecDepth 20000 in
theorem ggL_does_X6_ofLoad : GoodIn wsL_does wsX6_ofLoad := goodIn_r _ [173, 6, 174, 175, 176, 177, 178, 179, 22, 180, 24, 25, 369, 370, 371, 372, 373, 374, 387, 388, 389, 375, 376, 377, 378, 379, 380, 381] (by decide +kernel) (by decide +kernel)
set_option maxRecDepth 20000 in
theorem gL_does_X6_ofLoad : GoodIn wsL_does (wsV RL 14 RX6 yX6_ofLoad wsX6_ofLoad) := goodIn_app (goodIn_of _ (by decide +kernel)) ggL_does_X6_ofLoad
set_option maxRecDepth 20000 in
theorem ggL_does_X6_turn : GoodIn wsL_does wsX6_turn := goodIn_r _ [184, 14, 6, 59, 60, 61, 62, 63, 64, 65, 66, 67, 68, 22, 69, 70, 31, 32, 24, 25, 71, 72, 73, 74, 75, 41, 76, 77, 78, 79, 80, 43, 44, 81, 82, 83, 84, 85, 86, 87, 88, 89, 90, 91, 92, 93, 94, 95, 185, 186, 187, 188, 26, 189, 178, 179, 180, 108, 109, 110, 111, 112, 113, 114, 115, 116, 369, 370, 371, 372, 373, 374, 384, 385, 386, 375, 376, 377, 378, 379, 380, 381, 390, 391, 392, 393, 394, 395, 396, 397, 398, 399, 400, 401, 402, 387, 388, 389] (by decide +kernel) (by decide +kernel)
set_option maxRecDepth 20000 in
theorem gL_does_X6_turn : GoodIn wsL_does (wsV RL 83 RX6 yX6_turn wsX6_turn) := goodIn_app (goodIn_of _ (by decide +kernel)) ggL_does_X6_turn
set_option maxRecDepth 20000 in
theorem ggL_does_X6_tamper : GoodIn wsL_does wsX6_tamper := goodIn_r _ [193, 14, 6, 59, 60, 61, 62, 63, 64, 65, 66, 67, 68, 22, 69, 70, 31, 32, 24, 25, 71, 72, 73, 74, 75, 41, 76, 77, 78, 79, 80, 43, 44, 81, 82, 83, 84, 85, 86, 87, 88, 89, 90, 91, 92, 93, 94, 95, 194, 195, 196, 197, 33, 198, 100, 101, 102, 103, 108, 109, 110, 111, 112, 113, 114, 115, 116, 369, 370, 371, 372, 373, 374, 384, 385, 386, 375, 376, 377, 378, 379, 380, 381, 390, 391, 392, 393, 394, 395, 396, 397, 398, 399, 400, 401, 402, 387, 388, 389] (by decide +kernel) (by decide +kernel)
set_option maxRecDepth 20000 in
theorem gL_does_X6_tamper : GoodIn wsL_does (wsV RL 86 RX6 yX6_tamper wsX6_tamper) := goodIn_app (goodIn_of _ (by decide +kernel)) ggL_does_X6_tamper
set_option maxRecDepth 20000 in
theorem ggL_does_X6_visit : GoodIn wsL_does wsX6_visit := goodIn_r _ [202, 14, 6, 59, 60, 61, 62, 63, 64, 65, 66, 67, 68, 22, 69, 70, 31, 32, 24, 25, 71, 72, 73, 74, 75, 41, 76, 77, 78, 79, 80, 43, 44, 81, 82, 83, 84, 85, 86, 87, 88, 89, 90, 91, 92, 93, 94, 95, 203, 204, 205, 206, 33, 100, 101, 102, 103, 207, 208, 209, 210, 211, 212, 213, 214, 215, 216, 217, 218, 219, 220, 221, 222, 223, 224, 225, 226, 108, 109, 110, 111, 112, 113, 114, 115, 116, 369, 370, 371, 372, 373, 374, 384, 385, 386, 375, 376, 377, 378, 379, 380, 381, 390, 391, 392, 393, 394, 395, 396, 397, 398, 399, 400, 401, 402, 387, 388, 389] (by decide +kernel) (by decide +kernel)
set_option maxRecDepth 20000 in
theorem gL_does_X6_visit : GoodIn wsL_does (wsV RL 57 RX6 yX6_visit wsX6_visit) := goodIn_app (goodIn_of _ (by decide +kernel)) ggL_does_X6_visit
set_option maxRecDepth 20000 in
theorem ggL_does_L_isVisited : GoodIn wsL_does wsL_isVisited := goodIn_r _ [229, 230, 231, 232, 4, 233, 6, 132, 101, 102, 22, 103, 31, 32, 234, 208, 209, 210, 70, 211, 212, 213, 41, 214, 43, 81, 215, 216, 217, 218, 44, 82, 117, 118, 119, 120, 121, 122, 123, 124, 125, 126, 127, 128, 129, 130, 11, 131, 133, 134, 135, 136, 24, 25, 26, 137, 138, 139, 140, 141, 142, 143, 144, 145, 146, 147, 148, 149, 150, 79, 151, 152, 153, 154, 80, 155, 156, 115, 157, 1, 2, 3, 5, 7, 8, 9, 10, 12, 13, 14, 15, 16, 17, 18, 19, 20, 21, 23, 27, 28, 29, 30, 33, 34, 35, 36, 37, 38, 39, 40, 42, 45, 46, 47, 48, 49, 235, 236, 237, 238, 239, 240, 241, 242, 243, 244, 83, 245, 78, 246, 199, 200, 201, 202, 59, 60, 61, 62, 63, 64, 65, 66, 67, 68, 69, 71, 72, 73, 74, 75, 76, 77, 84, 85, 86, 87, 88, 89, 90, 91, 92, 93, 94, 95, 203, 204, 205, 206, 100, 207, 219, 220, 221, 222, 223, 224, 225, 226, 108, 109, 110, 111, 112, 113, 114, 116, 369, 370, 371, 372, 373, 374, 375, 376, 377, 378, 379, 380, 381, 390, 391, 392, 393, 394, 395, 396, 397, 398, 399, 400, 401, 402, 387, 388, 389, 382, 383, 384, 385, 386] (by decide +kernel) (by decide +kernel)
set_option maxRecDepth 20000 in
theorem gL_does_L_isVisited : GoodIn wsL_does (va_wsS RL 89 yL_isVisited wsL_isVisited) := goodIn_app (goodIn_of _ (by decide +kernel)) ggL_does_L_isVisited
set_option maxRecDepth 20000 in
theorem ggL_does_X6_set : GoodIn wsL_does wsX6_set := goodIn_r _ [250, 14, 6, 59, 60, 61, 62, 63, 64, 65, 66, 67, 68, 22, 69, 70, 31, 32, 24, 25, 71, 72, 73, 74, 75, 41, 76, 77, 78, 79, 80, 43, 44, 81, 82, 83, 84, 85, 86, 87, 88, 89, 90, 91, 92, 93, 94, 95, 251, 252, 253, 254, 108, 109, 110, 111, 112, 113, 114, 115, 116, 369, 370, 371, 372, 373, 374, 384, 385, 386, 375, 376, 377, 378, 379, 380, 381, 390, 391, 392, 393, 394, 395, 396, 397, 398, 399, 400, 401, 402, 387, 388, 389] (by decide +kernel) (by decide +kernel)
set_option maxRecDepth 20000 in
theorem gL_does_X6_set : GoodIn wsL_does (wsV RL 93 RX6 yX6_set wsX6_set) := goodIn_app (goodIn_of _ (by decide +kernel)) ggL_does_X6_set
set_option maxRecDepth 20000 in
theorem ggL_does_X6_write : GoodIn wsL_does wsX6_write := goodIn_r _ [258, 6, 12, 124, 125, 128, 129, 13, 132, 101, 102, 22, 103, 31, 32, 259, 260, 261, 262, 263, 264, 265, 266, 267, 268, 269, 270, 271, 272, 273, 369, 370, 371, 372, 373, 374, 390, 391, 392, 393, 394, 395, 396, 397, 398, 399, 400, 401, 402, 382, 383, 375, 376, 377, 378, 379, 380, 381] (by decide +kernel) (by decide +kernel)
set_option maxRecDepth 20000 in
theorem gL_does_X6_write : GoodIn wsL_does (wsV RL 60 RX6 yX6_write wsX6_write) := goodIn_app (goodIn_of _ (by decide +kernel)) ggL_does_X6_write
set_option maxRecDepth 20000 in
theorem ggL_does_L_isWritten : GoodIn wsL_does wsL_isWritten := goodIn_r _ [276, 255, 256, 257, 4, 258, 6, 12, 124, 125, 128, 129, 13, 132, 101, 102, 22, 103, 31, 32, 259, 260, 261, 262, 263, 264, 265, 266, 267, 268, 269, 270, 271, 272, 273, 277, 278, 279, 280, 281, 282, 283, 284, 285, 286, 287, 288, 289, 290, 291, 292, 293, 294, 295, 296, 297, 298, 299, 300, 301, 302, 303, 304, 305, 306, 117, 118, 119, 120, 121, 122, 123, 126, 127, 130, 11, 131, 133, 134, 135, 136, 24, 25, 26, 137, 138, 139, 140, 141, 142, 143, 144, 145, 146, 147, 148, 149, 41, 150, 79, 151, 152, 153, 154, 80, 155, 156, 115, 157, 307, 308, 309, 310, 369, 370, 371, 372, 373, 374, 390, 391, 392, 393, 394, 395, 396, 397, 398, 399, 400, 401, 402, 382, 383, 375, 376, 377, 378, 379, 380, 381, 387, 388, 389] (by decide +kernel) (by decide +kernel)
set_option maxRecDepth 20000 in
theorem gL_does_L_isWritten : GoodIn wsL_does (va_wsS RL 96 yL_isWritten wsL_isWritten) := goodIn_app (goodIn_of _ (by decide +kernel)) ggL_does_L_isWritten
set_option maxRecDepth 20000 in
theorem ggL_does_L_passes : GoodIn wsL_does wsL_passes := goodIn_c (c := .code yL_passes cL_passes 23 (some .boolean)) (a := wsL_passes.tail) (List.mem_of_getElem? (i := 313) rfl) (by decide +kernel) (goodIn_r wsL_passes.tail [314, 315, 316, 1, 2, 3, 4, 5, 6, 7, 8, 9, 10, 11, 12, 13, 14, 15, 16, 17, 18, 19, 20, 21, 22, 23, 24, 25, 26, 27, 28, 29, 30, 31, 32, 33, 34, 35, 36, 37, 38, 39, 40, 41, 42, 43, 44, 45, 46, 47, 48, 49, 317, 318, 319, 320, 59, 60, 61, 62, 63, 64, 65, 66, 67, 68, 69, 70, 71, 72, 73, 74, 75, 76, 77, 78, 79, 80, 81, 82, 83, 84, 85, 86, 87, 88, 89, 90, 91, 92, 93, 94, 95, 321, 322, 323, 324, 325, 326, 134, 135, 136, 137, 138, 139, 140, 141, 142, 143, 144, 145, 146, 327, 328, 329, 330, 331, 114, 115, 116, 332, 156, 157, 333, 334, 335, 152, 153, 154, 155, 336, 337, 338, 339, 340, 341, 342, 343, 344, 108, 109, 110, 111, 112, 113, 345, 346, 347, 348, 349, 350, 351, 352, 353, 242, 243, 244, 245, 246, 354, 355, 356, 357, 358, 125, 124, 132, 101, 102, 103, 359, 133, 360, 117, 118, 119, 120, 121, 122, 123, 126, 127, 128, 129, 130, 131, 147, 148, 149, 150, 151, 361, 362, 363, 364, 365, 366, 367, 368, 235, 236, 237, 238, 239, 240, 241, 369, 370, 371, 372, 373, 374, 375, 376, 377, 378, 379, 380, 381, 382, 383, 384, 385, 386, 387, 388, 389, 390, 391, 392, 393, 394, 395, 396, 397, 398, 399, 400, 401, 402] (by decide +kernel) (by decide +kernel))
set_option maxRecDepth 20000 in
theorem gL_does_L_passes : GoodIn wsL_does (va_wsS RL 99 yL_passes wsL_passes) := goodIn_app (goodIn_of _ (by decide +kernel)) ggL_does_L_passes
set_option maxRecDepth 20000 in
theorem ggL_law_X6_init : GoodIn wsL_law wsX6_init := goodIn_r _ [5, 6, 7, 8, 9, 10, 11, 12, 13, 14, 15, 16, 17, 18, 19, 20, 21, 22, 23, 24, 25, 26, 27, 28, 29, 30, 31, 32, 33, 34, 35, 36, 37, 38, 39, 40, 41, 42, 43, 44, 45, 46, 47, 48, 49, 50, 51, 52, 53, 54, 55, 56, 57, 58, 59, 60, 61, 62, 63, 64, 65, 66, 67, 68, 69, 70, 71, 72, 73, 74, 75, 76, 77, 78, 79, 80, 81, 82, 83, 84, 85, 86, 87, 88, 457, 458, 459, 460, 461, 462, 463, 451, 452, 453, 454, 455, 456, 464, 465, 466, 467, 468, 469, 470, 471, 472, 473, 474, 475, 476, 477, 478, 479, 480, 481, 482, 483, 484] (by decide +kernel) (by decide +kernel)
set_option maxRecDepth 20000 in
theorem gL_law_X6_init : GoodIn wsL_law (wsX6_init) := ggL_law_X6_init
set_option maxRecDepth 20000 in
theorem ggL_law_L_areMeters : GoodIn wsL_law wsL_areMeters := goodIn_c (c := .code yL_areMeters cL_areMeters 19 (some .boolean)) (a := wsL_areMeters.tail) (List.mem_of_getElem? (i := 92) rfl) (by decide +kernel) (goodIn_r wsL_areMeters.tail [93, 94, 95, 96, 97, 2, 98, 12, 99, 100, 101, 102, 103, 20, 104, 24, 105, 106, 107, 108, 109, 110, 111, 11, 112, 113, 37, 114, 115, 116, 117, 118, 119, 35, 120, 121, 122, 123, 124, 125, 126, 127, 15, 128, 52, 53, 129, 130, 131, 132, 133, 134, 135, 136, 137, 138, 139, 140, 141, 142, 143, 144, 145, 146, 147, 148, 149, 150, 151, 152, 153, 154, 155, 156, 157, 158, 159, 160, 161, 162, 163, 164, 165, 166, 167, 168, 169, 170, 171, 172, 173, 174, 175, 176, 177, 178, 179, 180, 181, 50, 182, 183, 184, 185, 51, 186, 187, 188, 189, 190, 191, 192, 193, 194, 195, 196, 197, 198, 199, 200, 201, 202, 203, 204, 205, 206, 207, 208, 209, 210, 211, 212, 213, 56, 214, 49, 215, 216, 217, 218, 219, 220, 221, 222, 223, 224, 451, 452, 453, 454, 455, 456, 457, 458, 459, 460, 461, 462, 463, 477, 478, 479, 480, 481, 482, 483, 484, 464, 465, 466, 467, 468, 469, 470, 471, 472, 473, 474, 475, 476] (by decide +kernel) (by decide +kernel))
set_option maxRecDepth 20000 in
theorem gL_law_L_areMeters : GoodIn wsL_law (va_wsS RL 104 yL_areMeters wsL_areMeters) := goodIn_app (goodIn_of _ (by decide +kernel)) ggL_law_L_areMeters
set_option maxRecDepth 20000 in
theorem ggL_law_X6_count : GoodIn wsL_law wsX6_count := goodIn_r _ [98, 12, 99, 100, 101, 102, 103, 20, 104, 24, 105, 106, 107, 2, 108, 109, 110, 111, 11, 112, 113, 37, 114, 115, 116, 117, 118, 119, 35, 120, 121, 122, 123, 124, 125, 126, 127, 15, 128, 52, 53, 129, 130, 131, 132, 133, 451, 452, 453, 454, 455, 456, 457, 458, 459, 460, 461, 462, 463, 477, 478, 479, 480, 481, 482, 483, 484, 464, 465, 466, 467, 468, 469, 470, 471, 472, 473, 474, 475, 476] (by decide +kernel) (by decide +kernel)
set_option maxRecDepth 20000 in
theorem gL_law_X6_count : GoodIn wsL_law (wsV RL 8 RX6 yX6_count wsX6_count) := goodIn_app (goodIn_of _ (by decide +kernel)) ggL_law_X6_count
set_option maxRecDepth 20000 in
theorem ggL_law_X6_undo : GoodIn wsL_law wsX6_undo := goodIn_r _ [228, 24, 105, 12, 229, 230, 231, 23, 232, 87, 86, 85, 233, 234, 235, 11, 236, 33, 119, 35, 113, 37, 237, 238, 239, 240, 241, 15, 242, 48, 49, 50, 51, 52, 53, 54, 55, 56, 57, 58, 59, 60, 243, 244, 245, 39, 246, 69, 70, 71, 451, 452, 453, 454, 455, 456, 479, 480, 481, 457, 458, 459, 460, 461, 462, 463, 464, 465, 466, 467, 468, 469, 470, 471, 472, 473, 474, 475, 476, 482, 483, 484] (by decide +kernel) (by decide +kernel)
set_option maxRecDepth 20000 in
theorem gL_law_X6_undo : GoodIn wsL_law (wsV RL 108 RX6 yX6_undo wsX6_undo) := goodIn_app (goodIn_of _ (by decide +kernel)) ggL_law_X6_undo
set_option maxRecDepth 20000 in
theorem ggL_law_X6_lags : GoodIn wsL_law wsX6_lags := goodIn_r _ [198, 12, 199, 160, 161, 162, 11, 163, 119, 35, 200, 201, 202, 203, 174, 125, 126, 127, 15, 128, 52, 53, 451, 452, 453, 454, 455, 456, 457, 458, 459, 460, 461, 462, 463, 464, 465, 466, 467, 468, 469, 470, 471, 472, 473, 474, 475, 476] (by decide +kernel) (by decide +kernel)
set_option maxRecDepth 20000 in
theorem gL_law_X6_lags : GoodIn wsL_law (wsV RL 24 RX6 yX6_lags wsX6_lags) := goodIn_app (goodIn_of _ (by decide +kernel)) ggL_law_X6_lags
set_option maxRecDepth 20000 in
theorem ggL_law_L_cell : GoodIn wsL_law wsL_cell := goodIn_r _ [249] (by decide +kernel) (by decide +kernel)
set_option maxRecDepth 20000 in
theorem gL_law_L_cell : GoodIn wsL_law (va_wsS RL 111 yL_cell wsL_cell) := goodIn_app (goodIn_of _ (by decide +kernel)) ggL_law_L_cell
set_option maxRecDepth 20000 in
theorem gdo_1 : GoodIn wsL_law wsL_does_r1 := goodIn_r _ [95, 96, 97, 2, 98, 12, 99, 100, 101, 102, 103, 20, 104, 24, 105, 106, 107, 108, 109, 110, 111, 11, 112, 113] (by decide +kernel) (by decide +kernel)
set_option maxRecDepth 20000 in
theorem gdo_2 : GoodIn wsL_law wsL_does_r2 := goodIn_r _ [37, 114, 115, 116, 117, 118, 119, 35, 120, 121, 122, 123, 124, 125, 126, 127, 15, 128, 52, 53, 129, 130, 131, 132] (by decide +kernel) (by decide +kernel)
set_option maxRecDepth 20000 in
theorem gdo_3 : GoodIn wsL_law wsL_does_r3 := goodIn_r _ [133, 253, 254, 91, 255, 256, 257, 258, 259, 260, 261, 262, 263, 23, 264, 85, 86, 265, 234, 235, 236, 33, 237, 238] (by decide +kernel) (by decide +kernel)
set_option maxRecDepth 20000 in
theorem gdo_4 : GoodIn wsL_law wsL_does_r4 := goodIn_r _ [239, 240, 241, 242, 48, 49, 50, 51, 54, 55, 56, 57, 58, 59, 60, 243, 244, 245, 39, 246, 69, 70, 71, 266] (by decide +kernel) (by decide +kernel)
set_option maxRecDepth 20000 in
theorem gdo_5 : GoodIn wsL_law wsL_does_r5 := goodIn_r _ [267, 268, 269, 270, 161, 162, 163, 271, 45, 46, 47, 272, 273, 274, 275, 87, 276, 277, 188, 278, 145, 146, 147, 148] (by decide +kernel) (by decide +kernel)
set_option maxRecDepth 20000 in
theorem gdo_6 : GoodIn wsL_law wsL_does_r6 := goodIn_r _ [149, 150, 151, 152, 153, 154, 155, 156, 157, 158, 159, 160, 164, 165, 166, 167, 168, 169, 170, 171, 172, 173, 174, 175] (by decide +kernel) (by decide +kernel)
set_option maxRecDepth 20000 in
theorem gdo_7 : GoodIn wsL_law wsL_does_r7 := goodIn_r _ [176, 177, 178, 179, 180, 181, 182, 183, 184, 185, 186, 187, 189, 279, 280, 281, 282, 283, 284, 285, 286, 287, 66, 67] (by decide +kernel) (by decide +kernel)
set_option maxRecDepth 20000 in
theorem gdo_8 : GoodIn wsL_law wsL_does_r8 := goodIn_r _ [68, 134, 135, 136, 137, 138, 139, 140, 141, 142, 143, 144, 288, 289, 290, 291, 292, 293, 294, 295, 296, 297, 298, 299] (by decide +kernel) (by decide +kernel)
set_option maxRecDepth 20000 in
theorem gdo_9 : GoodIn wsL_law wsL_does_r9 := goodIn_r _ [300, 301, 302, 303, 304, 305, 306, 307, 308, 309, 310, 311, 312, 313, 314, 315, 316, 317, 318, 319, 320, 321, 322, 323] (by decide +kernel) (by decide +kernel)
set_option maxRecDepth 20000 in
theorem gdo_10 : GoodIn wsL_law wsL_does_r10 := goodIn_r _ [324, 325, 326, 327, 328, 329, 330, 331, 332, 333, 334, 335, 336, 337, 338, 339, 340, 341, 204, 205, 206, 207, 208, 209] (by decide +kernel) (by decide +kernel)
set_option maxRecDepth 20000 in
theorem gdo_11 : GoodIn wsL_law wsL_does_r11 := goodIn_r _ [210, 211, 212, 213, 214, 215, 342, 343, 344, 345, 346, 347, 348, 349, 350, 351, 352, 353, 354, 355, 356, 19, 357, 79] (by decide +kernel) (by decide +kernel)
set_option maxRecDepth 20000 in
theorem gdo_12 : GoodIn wsL_law wsL_does_r12 := goodIn_r _ [358, 359, 360, 361, 78, 362, 363, 364, 365, 366, 367, 368, 369, 370, 371, 372, 373, 374, 375, 376, 377, 378, 379, 380] (by decide +kernel) (by decide +kernel)
set_option maxRecDepth 20000 in
theorem gdo_13 : GoodIn wsL_law wsL_does_r13 := goodIn_r _ [381, 382, 383, 384, 385, 386, 387, 388, 389, 390, 391, 392, 393, 394, 395, 396, 397, 398, 399, 400, 401, 402, 403, 404] (by decide +kernel) (by decide +kernel)
set_option maxRecDepth 20000 in
theorem gdo_14 : GoodIn wsL_law wsL_does_r14 := goodIn_c (c := Cond.code yL_passes cL_passes 23 (some .boolean)) (a := wsL_does_r14.tail) (List.mem_of_getElem? (i := 405) rfl) (by decide +kernel) (goodIn_r wsL_does_r14.tail [406, 407, 408, 409, 410, 411, 412, 413, 414, 415, 416, 417, 418, 419, 420, 421, 422, 423, 424, 425, 426, 427, 428] (by decide +kernel) (by decide +kernel))
set_option maxRecDepth 20000 in
theorem gdo_15 : GoodIn wsL_law wsL_does_r15 := goodIn_r _ [429, 430, 431, 432, 433, 434, 435, 436, 216, 217, 218, 219, 220, 221, 222, 223, 224, 437, 438, 439, 440, 16, 441, 442] (by decide +kernel) (by decide +kernel)
set_option maxRecDepth 20000 in
theorem gdo_16 : GoodIn wsL_law wsL_does_r16 := goodIn_r _ [443, 444, 445, 446, 447, 448, 449, 450] (by decide +kernel) (by decide +kernel)
set_option maxRecDepth 20000 in
theorem gdo_X6 : GoodIn wsL_law wsX60 := goodIn_r _ [451, 452, 453, 454, 455, 456] (by decide +kernel) (by decide +kernel)
set_option maxRecDepth 20000 in
theorem gdo_X2 : GoodIn wsL_law wsX20 := goodIn_r _ [457, 458, 459, 460, 461, 462, 463] (by decide +kernel) (by decide +kernel)
set_option maxRecDepth 20000 in
theorem gdo_X5 : GoodIn wsL_law wsX50 := goodIn_r _ [477, 478] (by decide +kernel) (by decide +kernel)
set_option maxRecDepth 20000 in
theorem gdo_X1 : GoodIn wsL_law wsX10 := goodIn_r _ [479, 480, 481] (by decide +kernel) (by decide +kernel)
set_option maxRecDepth 20000 in
theorem gdo_X3 : GoodIn wsL_law wsX30 := goodIn_r _ [482, 483, 484] (by decide +kernel) (by decide +kernel)
set_option maxRecDepth 20000 in
theorem gdo_X4 : GoodIn wsL_law wsX40 := goodIn_r _ [464, 465, 466, 467, 468, 469, 470, 471, 472, 473, 474, 475, 476] (by decide +kernel) (by decide +kernel)
theorem ggL_law_L_does : GoodIn wsL_law wsL_does := goodIn_c (c := .code yL_does cL_does 18 (some .boolean)) (List.mem_of_getElem? (i := 252) rfl) (by decide +kernel) (goodIn_app (goodIn_app (goodIn_app (goodIn_app (goodIn_app (goodIn_app (goodIn_app gdo_1 (goodIn_app gdo_2 (goodIn_app gdo_3 (goodIn_app gdo_4 (goodIn_app gdo_5 (goodIn_app gdo_6 (goodIn_app gdo_7 (goodIn_app gdo_8 (goodIn_app gdo_9 (goodIn_app gdo_10 (goodIn_app gdo_11 (goodIn_app gdo_12 (goodIn_app gdo_13 (goodIn_app gdo_14 (goodIn_app gdo_15 gdo_16))))))))))))))) gdo_X6) gdo_X2) gdo_X5) gdo_X1) gdo_X3) gdo_X4)
set_option maxRecDepth 20000 in
theorem gL_law_L_does : GoodIn wsL_law (va_wsS RL 115 yL_does wsL_does) := goodIn_app (goodIn_of _ (by decide +kernel)) ggL_law_L_does
set_option maxRecDepth 20000 in
theorem ggL_law_X6_set : GoodIn wsL_law wsX6_set := goodIn_r _ [345, 24, 12, 261, 262, 263, 23, 264, 85, 86, 265, 234, 235, 11, 236, 33, 119, 35, 113, 37, 237, 238, 239, 240, 241, 15, 242, 48, 49, 50, 51, 52, 53, 54, 55, 56, 57, 58, 59, 60, 243, 244, 245, 39, 246, 69, 70, 71, 346, 347, 348, 349, 272, 273, 274, 275, 87, 276, 277, 188, 278, 451, 452, 453, 454, 455, 456, 479, 480, 481, 457, 458, 459, 460, 461, 462, 463, 464, 465, 466, 467, 468, 469, 470, 471, 472, 473, 474, 475, 476, 482, 483, 484] (by decide +kernel) (by decide +kernel)
set_option maxRecDepth 20000 in
theorem gL_law_X6_set : GoodIn wsL_law (wsV RL 93 RX6 yX6_set wsX6_set) := goodIn_app (goodIn_of _ (by decide +kernel)) ggL_law_X6_set
set_option maxRecDepth 20000 in
theorem ggL_law_X6_pass : GoodIn wsL_law wsX6_pass := goodIn_r _ [412, 24, 12, 261, 262, 263, 23, 264, 85, 86, 265, 234, 235, 11, 236, 33, 119, 35, 113, 37, 237, 238, 239, 240, 241, 15, 242, 48, 49, 50, 51, 52, 53, 54, 55, 56, 57, 58, 59, 60, 243, 244, 245, 39, 246, 69, 70, 71, 413, 414, 415, 416, 417, 418, 165, 166, 167, 114, 168, 169, 170, 171, 172, 173, 174, 175, 176, 177, 419, 420, 421, 422, 423, 277, 188, 278, 424, 187, 189, 425, 2, 426, 427, 183, 184, 185, 186, 107, 108, 428, 429, 430, 431, 432, 433, 434, 435, 436, 272, 273, 274, 275, 87, 276, 451, 452, 453, 454, 455, 456, 479, 480, 481, 457, 458, 459, 460, 461, 462, 463, 464, 465, 466, 467, 468, 469, 470, 471, 472, 473, 474, 475, 476, 482, 483, 484] (by decide +kernel) (by decide +kernel)
set_option maxRecDepth 20000 in
theorem gL_law_X6_pass : GoodIn wsL_law (wsV RL 38 RX6 yX6_pass wsX6_pass) := goodIn_app (goodIn_of _ (by decide +kernel)) ggL_law_X6_pass
set_option maxRecDepth 20000 in
theorem ggL_law_X6_turn : GoodIn wsL_law wsX6_turn := goodIn_r _ [291, 24, 12, 261, 262, 263, 23, 264, 85, 86, 265, 234, 235, 11, 236, 33, 119, 35, 113, 37, 237, 238, 239, 240, 241, 15, 242, 48, 49, 50, 51, 52, 53, 54, 55, 56, 57, 58, 59, 60, 243, 244, 245, 39, 246, 69, 70, 71, 292, 293, 294, 295, 114, 296, 142, 143, 144, 272, 273, 274, 275, 87, 276, 277, 188, 278, 451, 452, 453, 454, 455, 456, 479, 480, 481, 457, 458, 459, 460, 461, 462, 463, 464, 465, 466, 467, 468, 469, 470, 471, 472, 473, 474, 475, 476, 482, 483, 484] (by decide +kernel) (by decide +kernel)
set_option maxRecDepth 20000 in
theorem gL_law_X6_turn : GoodIn wsL_law (wsV RL 83 RX6 yX6_turn wsX6_turn) := goodIn_app (goodIn_of _ (by decide +kernel)) ggL_law_X6_turn
set_option maxRecDepth 20000 in
theorem ggL_law_X6_fed : GoodIn wsL_law wsX6_fed := goodIn_r _ [193, 12, 160, 161, 162, 11, 163, 119, 35, 194, 171, 172, 173, 174, 175, 176, 177, 451, 452, 453, 454, 455, 456, 457, 458, 459, 460, 461, 462, 463, 464, 465, 466, 467, 468, 469, 470, 471, 472, 473, 474, 475, 476] (by decide +kernel) (by decide +kernel)
set_option maxRecDepth 20000 in
theorem gL_law_X6_fed : GoodIn wsL_law (wsV RL 21 RX6 yX6_fed wsX6_fed) := goodIn_app (goodIn_of _ (by decide +kernel)) ggL_law_X6_fed
