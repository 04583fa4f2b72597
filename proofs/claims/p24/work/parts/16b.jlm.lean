def keepA (a : Nat → Nat) (bb : Nat → Nat → Nat) : List (List Nat) := [[a 1, a 2], [bb 0 0], [bb 0 1, bb 0 2], [bb 0 3], [bb 0 4, bb 0 5], [bb 0 6, bb 0 7], [bb 4 0], [bb 4 1, bb 4 2], [bb 4 3], [bb 4 4, bb 4 5], [bb 4 6, bb 4 7], [bb 5 0], [bb 5 1, bb 5 2], [bb 5 3], [bb 5 4, bb 5 5], [bb 5 6, bb 5 7], [bb 6 0], [bb 6 1, bb 6 2], [bb 6 3], [bb 6 4, bb 6 5], [bb 6 6, bb 6 7], [bb 7 0], [bb 7 1, bb 7 2], [bb 7 3], [bb 7 4, bb 7 5], [bb 7 6, bb 7 7], [bb 8 0], [bb 8 1, bb 8 2], [bb 8 3], [bb 8 4, bb 8 5], [bb 8 6, bb 8 7], [bb 9 0], [bb 9 1, bb 9 2], [bb 9 3], [bb 9 4, bb 9 5], [bb 9 6, bb 9 7]]
theorem keepB_fst (y : Nat → ClassId) (a : Nat → Nat) (bb : Nat → Nat → Nat) (T : Nat → Nat → Int32) (Z : Nat → Nat → Nat → Int32) : List.map (List.map Prod.fst) (keepB y a bb T Z) = keepA a bb := rfl
theorem jet_keepC (y : Nat → ClassId) (a : Nat → Nat) (bb : Nat → Nat → Nat) (T : Nat → Nat → Int32) (Z : Nat → Nat → Nat → Int32) : List.map (fun i => (jetB y a bb T Z)[i]?) [1, 5, 6, 7, 8, 9, 25, 26, 27, 28, 29, 30, 31, 32, 33, 34, 35, 36, 37, 38, 39, 40, 41, 42, 43, 44, 45, 46, 47, 48, 49, 50, 51, 52, 53, 54] = List.map some (keepB y a bb T Z) := rfl
theorem jPutA_app : ∀ {is1 is2 : List Nat} {cs1 cs2 bs : List va_W}, is1.length = cs1.length → jPutA (is1 ++ is2) (cs1 ++ cs2) bs = jPutA is2 cs2 (jPutA is1 cs1 bs)
  | [], _, cs1, _, _, h => by
    cases cs1 with
    | nil => rfl
    | cons x xs => simp at h
  | i :: is, is2, cs1, cs2, bs, h => by
    cases cs1 with
    | nil => simp at h
    | cons x xs =>
      have h' : is.length = xs.length := by simpa using h
      show jPutA (is ++ is2) (xs ++ cs2) (bs.set i x) = jPutA is2 cs2 (jPutA is xs (bs.set i x))
      exact jPutA_app h'
theorem jetB_ext {y : Nat → ClassId} {a : Nat → Nat} {bb : Nat → Nat → Nat} {T : Nat → Nat → Int32} {Z Z' : Nat → Nat → Nat → Int32} (h0 : Z 0 = Z' 0) (h1 : Z 1 = Z' 1) (h2 : Z 2 = Z' 2) (h3 : Z 3 = Z' 3) (h4 : Z 4 = Z' 4) (h5 : Z 5 = Z' 5) (h6 : Z 6 = Z' 6) (h7 : Z 7 = Z' 7) (h8 : Z 8 = Z' 8) (h9 : Z 9 = Z' 9) : jetB y a bb T Z = jetB y a bb T Z' := by
  unfold jetB
  rw [h0, h1, h2, h3, h4, h5, h6, h7, h8, h9]
theorem jst_h (y : Nat → ClassId) (a : Nat → Nat) (bb : Nat → Nat → Nat) (T : Nat → Nat → Int32) (Z : Nat → Nat → Nat → Int32) (f : Nat → Int32) : jPutA [1] [hisW y a bb (sv 1 T f)] (jetB y a bb T Z) = jetB y a bb (sv 1 T f) Z := rfl
theorem jst_0 (y : Nat → ClassId) (a : Nat → Nat) (bb : Nat → Nat → Nat) (T : Nat → Nat → Int32) (Z : Nat → Nat → Nat → Int32) (X : Nat → Nat → Int32) : jPutA [5, 6, 7, 8, 9] (stB y (bb 0) X) (jetB y a bb T Z) = jetB y a bb T (upZ 0 Z X) := rfl
theorem jst_1 (y : Nat → ClassId) (a : Nat → Nat) (bb : Nat → Nat → Nat) (T : Nat → Nat → Int32) (Z : Nat → Nat → Nat → Int32) (X : Nat → Nat → Int32) : jPutA [10, 11, 12, 13, 14] (stB y (bb 1) X) (jetB y a bb T Z) = jetB y a bb T (upZ 1 Z X) := rfl
theorem jst_2 (y : Nat → ClassId) (a : Nat → Nat) (bb : Nat → Nat → Nat) (T : Nat → Nat → Int32) (Z : Nat → Nat → Nat → Int32) (X : Nat → Nat → Int32) : jPutA [15, 16, 17, 18, 19] (stB y (bb 2) X) (jetB y a bb T Z) = jetB y a bb T (upZ 2 Z X) := rfl
theorem jst_3 (y : Nat → ClassId) (a : Nat → Nat) (bb : Nat → Nat → Nat) (T : Nat → Nat → Int32) (Z : Nat → Nat → Nat → Int32) (X : Nat → Nat → Int32) : jPutA [20, 21, 22, 23, 24] (stB y (bb 3) X) (jetB y a bb T Z) = jetB y a bb T (upZ 3 Z X) := rfl
theorem jst_4 (y : Nat → ClassId) (a : Nat → Nat) (bb : Nat → Nat → Nat) (T : Nat → Nat → Int32) (Z : Nat → Nat → Nat → Int32) (X : Nat → Nat → Int32) : jPutA [25, 26, 27, 28, 29] (stB y (bb 4) X) (jetB y a bb T Z) = jetB y a bb T (upZ 4 Z X) := rfl
theorem jst_5 (y : Nat → ClassId) (a : Nat → Nat) (bb : Nat → Nat → Nat) (T : Nat → Nat → Int32) (Z : Nat → Nat → Nat → Int32) (X : Nat → Nat → Int32) : jPutA [30, 31, 32, 33, 34] (stB y (bb 5) X) (jetB y a bb T Z) = jetB y a bb T (upZ 5 Z X) := rfl
theorem jst_6 (y : Nat → ClassId) (a : Nat → Nat) (bb : Nat → Nat → Nat) (T : Nat → Nat → Int32) (Z : Nat → Nat → Nat → Int32) (X : Nat → Nat → Int32) : jPutA [35, 36, 37, 38, 39] (stB y (bb 6) X) (jetB y a bb T Z) = jetB y a bb T (upZ 6 Z X) := rfl
theorem jst_7 (y : Nat → ClassId) (a : Nat → Nat) (bb : Nat → Nat → Nat) (T : Nat → Nat → Int32) (Z : Nat → Nat → Nat → Int32) (X : Nat → Nat → Int32) : jPutA [40, 41, 42, 43, 44] (stB y (bb 7) X) (jetB y a bb T Z) = jetB y a bb T (upZ 7 Z X) := rfl
theorem jst_8 (y : Nat → ClassId) (a : Nat → Nat) (bb : Nat → Nat → Nat) (T : Nat → Nat → Int32) (Z : Nat → Nat → Nat → Int32) (X : Nat → Nat → Int32) : jPutA [45, 46, 47, 48, 49] (stB y (bb 8) X) (jetB y a bb T Z) = jetB y a bb T (upZ 8 Z X) := rfl
theorem jst_9 (y : Nat → ClassId) (a : Nat → Nat) (bb : Nat → Nat → Nat) (T : Nat → Nat → Int32) (Z : Nat → Nat → Nat → Int32) (X : Nat → Nat → Int32) : jPutA [50, 51, 52, 53, 54] (stB y (bb 9) X) (jetB y a bb T Z) = jetB y a bb T (upZ 9 Z X) := rfl
theorem jet_keepP (y : Nat → ClassId) (a : Nat → Nat) (bb : Nat → Nat → Nat) (T : Nat → Nat → Int32) (Z : Nat → Nat → Nat → Int32) (f : Nat → Int32) (j : Nat) : jPut (jetB y a bb T Z) [1, 5, 6, 7, 8, 9, 25, 26, 27, 28, 29, 30, 31, 32, 33, 34, 35, 36, 37, 38, 39, 40, 41, 42, 43, 44, 45, 46, 47, 48, 49, 50, 51, 52, 53, 54] (keepB y a bb (sv 1 T f) (keepZ j Z (Z 0))) = jetB y a bb (sv 1 T f) (keepZ j Z (Z 0)) := by
  have e1 : [1, 5, 6, 7, 8, 9, 25, 26, 27, 28, 29, 30, 31, 32, 33, 34, 35, 36, 37, 38, 39, 40, 41, 42, 43, 44, 45, 46, 47, 48, 49, 50, 51, 52, 53, 54] = [1] ++ ([5, 6, 7, 8, 9] ++ ([25, 26, 27, 28, 29] ++ ([30, 31, 32, 33, 34] ++ ([35, 36, 37, 38, 39] ++ ([40, 41, 42, 43, 44] ++ ([45, 46, 47, 48, 49] ++ ([50, 51, 52, 53, 54]))))))) := rfl
  have e2 : keepB y a bb (sv 1 T f) (keepZ j Z (Z 0)) = [hisW y a bb (sv 1 T f)] ++ (stB y (bb 0) ((keepZ j Z (Z 0)) 0) ++ (stB y (bb 4) ((keepZ j Z (Z 0)) 4) ++ (stB y (bb 5) ((keepZ j Z (Z 0)) 5) ++ (stB y (bb 6) ((keepZ j Z (Z 0)) 6) ++ (stB y (bb 7) ((keepZ j Z (Z 0)) 7) ++ (stB y (bb 8) ((keepZ j Z (Z 0)) 8) ++ (stB y (bb 9) ((keepZ j Z (Z 0)) 9)))))))) := rfl
  unfold jPut
  rw [e1, e2]
  rw [jPutA_app rfl, jst_h, jPutA_app rfl, jst_0, jPutA_app rfl, jst_4, jPutA_app rfl, jst_5, jPutA_app rfl, jst_6, jPutA_app rfl, jst_7, jPutA_app rfl, jst_8, jst_9]
  exact jetB_ext rfl rfl rfl rfl rfl rfl rfl rfl rfl rfl
theorem jet_takeP (y : Nat → ClassId) (a : Nat → Nat) (bb : Nat → Nat → Nat) (T : Nat → Nat → Int32) (Z : Nat → Nat → Nat → Int32) (f : Nat → Int32) (X : Nat → Nat → Int32) : jPut (jetB y a bb T Z) [1, 5, 6, 7, 8, 9, 25, 26, 27, 28, 29, 30, 31, 32, 33, 34, 35, 36, 37, 38, 39, 40, 41, 42, 43, 44, 45, 46, 47, 48, 49, 50, 51, 52, 53, 54] (keepB y a bb (sv 1 T f) (upZ 0 Z X)) = jetB y a bb (sv 1 T f) (upZ 0 Z X) := by
  have e1 : [1, 5, 6, 7, 8, 9, 25, 26, 27, 28, 29, 30, 31, 32, 33, 34, 35, 36, 37, 38, 39, 40, 41, 42, 43, 44, 45, 46, 47, 48, 49, 50, 51, 52, 53, 54] = [1] ++ ([5, 6, 7, 8, 9] ++ ([25, 26, 27, 28, 29] ++ ([30, 31, 32, 33, 34] ++ ([35, 36, 37, 38, 39] ++ ([40, 41, 42, 43, 44] ++ ([45, 46, 47, 48, 49] ++ ([50, 51, 52, 53, 54]))))))) := rfl
  have e2 : keepB y a bb (sv 1 T f) (upZ 0 Z X) = [hisW y a bb (sv 1 T f)] ++ (stB y (bb 0) ((upZ 0 Z X) 0) ++ (stB y (bb 4) ((upZ 0 Z X) 4) ++ (stB y (bb 5) ((upZ 0 Z X) 5) ++ (stB y (bb 6) ((upZ 0 Z X) 6) ++ (stB y (bb 7) ((upZ 0 Z X) 7) ++ (stB y (bb 8) ((upZ 0 Z X) 8) ++ (stB y (bb 9) ((upZ 0 Z X) 9)))))))) := rfl
  unfold jPut
  rw [e1, e2]
  rw [jPutA_app rfl, jst_h, jPutA_app rfl, jst_0, jPutA_app rfl, jst_4, jPutA_app rfl, jst_5, jPutA_app rfl, jst_6, jPutA_app rfl, jst_7, jPutA_app rfl, jst_8, jst_9]
  exact jetB_ext rfl rfl rfl rfl rfl rfl rfl rfl rfl rfl
