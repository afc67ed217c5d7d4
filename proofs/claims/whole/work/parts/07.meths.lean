/-! METHODS AND LINKS (written by wip/whole/gen/meths.py) -/
theorem lk_r1 : ∀ w ∈ wsL_law_r1, w ∈ wsL_law := fun w h => List.mem_append_left _ (List.mem_append_left _ (List.mem_append_left _ (List.mem_append_left _ (List.mem_append_left _ (List.mem_append_left _ (List.mem_append_left _ (List.mem_append_left _ (List.mem_append_left _ (List.mem_append_left _ (List.mem_append_left _ (List.mem_append_left _ h)))))))))))
theorem lk_r2 : ∀ w ∈ wsL_law_r2, w ∈ wsL_law := fun w h => List.mem_append_left _ (List.mem_append_left _ (List.mem_append_left _ (List.mem_append_left _ (List.mem_append_left _ (List.mem_append_left _ (List.mem_append_left _ (List.mem_append_left _ (List.mem_append_left _ (List.mem_append_left _ (List.mem_append_left _ (List.mem_append_right _ (List.mem_append_left _ h))))))))))))
theorem lk_r3 : ∀ w ∈ wsL_law_r3, w ∈ wsL_law := fun w h => List.mem_append_left _ (List.mem_append_left _ (List.mem_append_left _ (List.mem_append_left _ (List.mem_append_left _ (List.mem_append_left _ (List.mem_append_left _ (List.mem_append_left _ (List.mem_append_left _ (List.mem_append_left _ (List.mem_append_left _ (List.mem_append_right _ (List.mem_append_right _ (List.mem_append_left _ h)))))))))))))
theorem lk_r4 : ∀ w ∈ wsL_law_r4, w ∈ wsL_law := fun w h => List.mem_append_left _ (List.mem_append_left _ (List.mem_append_left _ (List.mem_append_left _ (List.mem_append_left _ (List.mem_append_left _ (List.mem_append_left _ (List.mem_append_left _ (List.mem_append_left _ (List.mem_append_left _ (List.mem_append_left _ (List.mem_append_right _ (List.mem_append_right _ (List.mem_append_right _ (List.mem_append_left _ h))))))))))))))
theorem lk_r5 : ∀ w ∈ wsL_law_r5, w ∈ wsL_law := fun w h => List.mem_append_left _ (List.mem_append_left _ (List.mem_append_left _ (List.mem_append_left _ (List.mem_append_left _ (List.mem_append_left _ (List.mem_append_left _ (List.mem_append_left _ (List.mem_append_left _ (List.mem_append_left _ (List.mem_append_left _ (List.mem_append_right _ (List.mem_append_right _ (List.mem_append_right _ (List.mem_append_right _ (List.mem_append_left _ h)))))))))))))))
theorem lk_r6 : ∀ w ∈ wsL_law_r6, w ∈ wsL_law := fun w h => List.mem_append_left _ (List.mem_append_left _ (List.mem_append_left _ (List.mem_append_left _ (List.mem_append_left _ (List.mem_append_left _ (List.mem_append_left _ (List.mem_append_left _ (List.mem_append_left _ (List.mem_append_left _ (List.mem_append_left _ (List.mem_append_right _ (List.mem_append_right _ (List.mem_append_right _ (List.mem_append_right _ (List.mem_append_right _ (List.mem_append_left _ h))))))))))))))))
theorem lk_r7 : ∀ w ∈ wsL_law_r7, w ∈ wsL_law := fun w h => List.mem_append_left _ (List.mem_append_left _ (List.mem_append_left _ (List.mem_append_left _ (List.mem_append_left _ (List.mem_append_left _ (List.mem_append_left _ (List.mem_append_left _ (List.mem_append_left _ (List.mem_append_left _ (List.mem_append_left _ (List.mem_append_right _ (List.mem_append_right _ (List.mem_append_right _ (List.mem_append_right _ (List.mem_append_right _ (List.mem_append_right _ (List.mem_append_left _ h)))))))))))))))))
theorem lk_r8 : ∀ w ∈ wsL_law_r8, w ∈ wsL_law := fun w h => List.mem_append_left _ (List.mem_append_left _ (List.mem_append_left _ (List.mem_append_left _ (List.mem_append_left _ (List.mem_append_left _ (List.mem_append_left _ (List.mem_append_left _ (List.mem_append_left _ (List.mem_append_left _ (List.mem_append_left _ (List.mem_append_right _ (List.mem_append_right _ (List.mem_append_right _ (List.mem_append_right _ (List.mem_append_right _ (List.mem_append_right _ (List.mem_append_right _ (List.mem_append_left _ h))))))))))))))))))
theorem lk_r9 : ∀ w ∈ wsL_law_r9, w ∈ wsL_law := fun w h => List.mem_append_left _ (List.mem_append_left _ (List.mem_append_left _ (List.mem_append_left _ (List.mem_append_left _ (List.mem_append_left _ (List.mem_append_left _ (List.mem_append_left _ (List.mem_append_left _ (List.mem_append_left _ (List.mem_append_left _ (List.mem_append_right _ (List.mem_append_right _ (List.mem_append_right _ (List.mem_append_right _ (List.mem_append_right _ (List.mem_append_right _ (List.mem_append_right _ (List.mem_append_right _ (List.mem_append_left _ h)))))))))))))))))))
theorem lk_r10 : ∀ w ∈ wsL_law_r10, w ∈ wsL_law := fun w h => List.mem_append_left _ (List.mem_append_left _ (List.mem_append_left _ (List.mem_append_left _ (List.mem_append_left _ (List.mem_append_left _ (List.mem_append_left _ (List.mem_append_left _ (List.mem_append_left _ (List.mem_append_left _ (List.mem_append_left _ (List.mem_append_right _ (List.mem_append_right _ (List.mem_append_right _ (List.mem_append_right _ (List.mem_append_right _ (List.mem_append_right _ (List.mem_append_right _ (List.mem_append_right _ (List.mem_append_right _ (List.mem_append_left _ h))))))))))))))))))))
theorem lk_r11 : ∀ w ∈ wsL_law_r11, w ∈ wsL_law := fun w h => List.mem_append_left _ (List.mem_append_left _ (List.mem_append_left _ (List.mem_append_left _ (List.mem_append_left _ (List.mem_append_left _ (List.mem_append_left _ (List.mem_append_left _ (List.mem_append_left _ (List.mem_append_left _ (List.mem_append_left _ (List.mem_append_right _ (List.mem_append_right _ (List.mem_append_right _ (List.mem_append_right _ (List.mem_append_right _ (List.mem_append_right _ (List.mem_append_right _ (List.mem_append_right _ (List.mem_append_right _ (List.mem_append_right _ (List.mem_append_left _ h)))))))))))))))))))))
theorem lk_r12 : ∀ w ∈ wsL_law_r12, w ∈ wsL_law := fun w h => List.mem_append_left _ (List.mem_append_left _ (List.mem_append_left _ (List.mem_append_left _ (List.mem_append_left _ (List.mem_append_left _ (List.mem_append_left _ (List.mem_append_left _ (List.mem_append_left _ (List.mem_append_left _ (List.mem_append_left _ (List.mem_append_right _ (List.mem_append_right _ (List.mem_append_right _ (List.mem_append_right _ (List.mem_append_right _ (List.mem_append_right _ (List.mem_append_right _ (List.mem_append_right _ (List.mem_append_right _ (List.mem_append_right _ (List.mem_append_right _ (List.mem_append_left _ h))))))))))))))))))))))
theorem lk_r13 : ∀ w ∈ wsL_law_r13, w ∈ wsL_law := fun w h => List.mem_append_left _ (List.mem_append_left _ (List.mem_append_left _ (List.mem_append_left _ (List.mem_append_left _ (List.mem_append_left _ (List.mem_append_left _ (List.mem_append_left _ (List.mem_append_left _ (List.mem_append_left _ (List.mem_append_left _ (List.mem_append_right _ (List.mem_append_right _ (List.mem_append_right _ (List.mem_append_right _ (List.mem_append_right _ (List.mem_append_right _ (List.mem_append_right _ (List.mem_append_right _ (List.mem_append_right _ (List.mem_append_right _ (List.mem_append_right _ (List.mem_append_right _ (List.mem_append_left _ h)))))))))))))))))))))))
theorem lk_r14 : ∀ w ∈ wsL_law_r14, w ∈ wsL_law := fun w h => List.mem_append_left _ (List.mem_append_left _ (List.mem_append_left _ (List.mem_append_left _ (List.mem_append_left _ (List.mem_append_left _ (List.mem_append_left _ (List.mem_append_left _ (List.mem_append_left _ (List.mem_append_left _ (List.mem_append_left _ (List.mem_append_right _ (List.mem_append_right _ (List.mem_append_right _ (List.mem_append_right _ (List.mem_append_right _ (List.mem_append_right _ (List.mem_append_right _ (List.mem_append_right _ (List.mem_append_right _ (List.mem_append_right _ (List.mem_append_right _ (List.mem_append_right _ (List.mem_append_right _ (List.mem_append_left _ h))))))))))))))))))))))))
theorem lk_r15 : ∀ w ∈ wsL_law_r15, w ∈ wsL_law := fun w h => List.mem_append_left _ (List.mem_append_left _ (List.mem_append_left _ (List.mem_append_left _ (List.mem_append_left _ (List.mem_append_left _ (List.mem_append_left _ (List.mem_append_left _ (List.mem_append_left _ (List.mem_append_left _ (List.mem_append_left _ (List.mem_append_right _ (List.mem_append_right _ (List.mem_append_right _ (List.mem_append_right _ (List.mem_append_right _ (List.mem_append_right _ (List.mem_append_right _ (List.mem_append_right _ (List.mem_append_right _ (List.mem_append_right _ (List.mem_append_right _ (List.mem_append_right _ (List.mem_append_right _ (List.mem_append_right _ (List.mem_append_left _ h)))))))))))))))))))))))))
theorem lk_r16 : ∀ w ∈ wsL_law_r16, w ∈ wsL_law := fun w h => List.mem_append_left _ (List.mem_append_left _ (List.mem_append_left _ (List.mem_append_left _ (List.mem_append_left _ (List.mem_append_left _ (List.mem_append_left _ (List.mem_append_left _ (List.mem_append_left _ (List.mem_append_left _ (List.mem_append_left _ (List.mem_append_right _ (List.mem_append_right _ (List.mem_append_right _ (List.mem_append_right _ (List.mem_append_right _ (List.mem_append_right _ (List.mem_append_right _ (List.mem_append_right _ (List.mem_append_right _ (List.mem_append_right _ (List.mem_append_right _ (List.mem_append_right _ (List.mem_append_right _ (List.mem_append_right _ (List.mem_append_right _ (List.mem_append_left _ h))))))))))))))))))))))))))
theorem lk_r17 : ∀ w ∈ wsL_law_r17, w ∈ wsL_law := fun w h => List.mem_append_left _ (List.mem_append_left _ (List.mem_append_left _ (List.mem_append_left _ (List.mem_append_left _ (List.mem_append_left _ (List.mem_append_left _ (List.mem_append_left _ (List.mem_append_left _ (List.mem_append_left _ (List.mem_append_left _ (List.mem_append_right _ (List.mem_append_right _ (List.mem_append_right _ (List.mem_append_right _ (List.mem_append_right _ (List.mem_append_right _ (List.mem_append_right _ (List.mem_append_right _ (List.mem_append_right _ (List.mem_append_right _ (List.mem_append_right _ (List.mem_append_right _ (List.mem_append_right _ (List.mem_append_right _ (List.mem_append_right _ (List.mem_append_right _ (List.mem_append_left _ h)))))))))))))))))))))))))))
theorem lk_r18 : ∀ w ∈ wsL_law_r18, w ∈ wsL_law := fun w h => List.mem_append_left _ (List.mem_append_left _ (List.mem_append_left _ (List.mem_append_left _ (List.mem_append_left _ (List.mem_append_left _ (List.mem_append_left _ (List.mem_append_left _ (List.mem_append_left _ (List.mem_append_left _ (List.mem_append_left _ (List.mem_append_right _ (List.mem_append_right _ (List.mem_append_right _ (List.mem_append_right _ (List.mem_append_right _ (List.mem_append_right _ (List.mem_append_right _ (List.mem_append_right _ (List.mem_append_right _ (List.mem_append_right _ (List.mem_append_right _ (List.mem_append_right _ (List.mem_append_right _ (List.mem_append_right _ (List.mem_append_right _ (List.mem_append_right _ (List.mem_append_right _ (List.mem_append_left _ h))))))))))))))))))))))))))))
theorem lk_r19 : ∀ w ∈ wsL_law_r19, w ∈ wsL_law := fun w h => List.mem_append_left _ (List.mem_append_left _ (List.mem_append_left _ (List.mem_append_left _ (List.mem_append_left _ (List.mem_append_left _ (List.mem_append_left _ (List.mem_append_left _ (List.mem_append_left _ (List.mem_append_left _ (List.mem_append_left _ (List.mem_append_right _ (List.mem_append_right _ (List.mem_append_right _ (List.mem_append_right _ (List.mem_append_right _ (List.mem_append_right _ (List.mem_append_right _ (List.mem_append_right _ (List.mem_append_right _ (List.mem_append_right _ (List.mem_append_right _ (List.mem_append_right _ (List.mem_append_right _ (List.mem_append_right _ (List.mem_append_right _ (List.mem_append_right _ (List.mem_append_right _ (List.mem_append_right _ (List.mem_append_left _ h)))))))))))))))))))))))))))))
theorem lk_r20 : ∀ w ∈ wsL_law_r20, w ∈ wsL_law := fun w h => List.mem_append_left _ (List.mem_append_left _ (List.mem_append_left _ (List.mem_append_left _ (List.mem_append_left _ (List.mem_append_left _ (List.mem_append_left _ (List.mem_append_left _ (List.mem_append_left _ (List.mem_append_left _ (List.mem_append_left _ (List.mem_append_right _ (List.mem_append_right _ (List.mem_append_right _ (List.mem_append_right _ (List.mem_append_right _ (List.mem_append_right _ (List.mem_append_right _ (List.mem_append_right _ (List.mem_append_right _ (List.mem_append_right _ (List.mem_append_right _ (List.mem_append_right _ (List.mem_append_right _ (List.mem_append_right _ (List.mem_append_right _ (List.mem_append_right _ (List.mem_append_right _ (List.mem_append_right _ (List.mem_append_right _ (List.mem_append_left _ h))))))))))))))))))))))))))))))
theorem lk_r21 : ∀ w ∈ wsL_law_r21, w ∈ wsL_law := fun w h => List.mem_append_left _ (List.mem_append_left _ (List.mem_append_left _ (List.mem_append_left _ (List.mem_append_left _ (List.mem_append_left _ (List.mem_append_left _ (List.mem_append_left _ (List.mem_append_left _ (List.mem_append_left _ (List.mem_append_left _ (List.mem_append_right _ (List.mem_append_right _ (List.mem_append_right _ (List.mem_append_right _ (List.mem_append_right _ (List.mem_append_right _ (List.mem_append_right _ (List.mem_append_right _ (List.mem_append_right _ (List.mem_append_right _ (List.mem_append_right _ (List.mem_append_right _ (List.mem_append_right _ (List.mem_append_right _ (List.mem_append_right _ (List.mem_append_right _ (List.mem_append_right _ (List.mem_append_right _ (List.mem_append_right _ (List.mem_append_right _ (List.mem_append_left _ h)))))))))))))))))))))))))))))))
theorem lk_r22 : ∀ w ∈ wsL_law_r22, w ∈ wsL_law := fun w h => List.mem_append_left _ (List.mem_append_left _ (List.mem_append_left _ (List.mem_append_left _ (List.mem_append_left _ (List.mem_append_left _ (List.mem_append_left _ (List.mem_append_left _ (List.mem_append_left _ (List.mem_append_left _ (List.mem_append_left _ (List.mem_append_right _ (List.mem_append_right _ (List.mem_append_right _ (List.mem_append_right _ (List.mem_append_right _ (List.mem_append_right _ (List.mem_append_right _ (List.mem_append_right _ (List.mem_append_right _ (List.mem_append_right _ (List.mem_append_right _ (List.mem_append_right _ (List.mem_append_right _ (List.mem_append_right _ (List.mem_append_right _ (List.mem_append_right _ (List.mem_append_right _ (List.mem_append_right _ (List.mem_append_right _ (List.mem_append_right _ (List.mem_append_right _ (List.mem_append_left _ h))))))))))))))))))))))))))))))))
theorem lk_r23 : ∀ w ∈ wsL_law_r23, w ∈ wsL_law := fun w h => List.mem_append_left _ (List.mem_append_left _ (List.mem_append_left _ (List.mem_append_left _ (List.mem_append_left _ (List.mem_append_left _ (List.mem_append_left _ (List.mem_append_left _ (List.mem_append_left _ (List.mem_append_left _ (List.mem_append_left _ (List.mem_append_right _ (List.mem_append_right _ (List.mem_append_right _ (List.mem_append_right _ (List.mem_append_right _ (List.mem_append_right _ (List.mem_append_right _ (List.mem_append_right _ (List.mem_append_right _ (List.mem_append_right _ (List.mem_append_right _ (List.mem_append_right _ (List.mem_append_right _ (List.mem_append_right _ (List.mem_append_right _ (List.mem_append_right _ (List.mem_append_right _ (List.mem_append_right _ (List.mem_append_right _ (List.mem_append_right _ (List.mem_append_right _ (List.mem_append_right _ (List.mem_append_left _ h)))))))))))))))))))))))))))))))))
theorem lk_r24 : ∀ w ∈ wsL_law_r24, w ∈ wsL_law := fun w h => List.mem_append_left _ (List.mem_append_left _ (List.mem_append_left _ (List.mem_append_left _ (List.mem_append_left _ (List.mem_append_left _ (List.mem_append_left _ (List.mem_append_left _ (List.mem_append_left _ (List.mem_append_left _ (List.mem_append_left _ (List.mem_append_right _ (List.mem_append_right _ (List.mem_append_right _ (List.mem_append_right _ (List.mem_append_right _ (List.mem_append_right _ (List.mem_append_right _ (List.mem_append_right _ (List.mem_append_right _ (List.mem_append_right _ (List.mem_append_right _ (List.mem_append_right _ (List.mem_append_right _ (List.mem_append_right _ (List.mem_append_right _ (List.mem_append_right _ (List.mem_append_right _ (List.mem_append_right _ (List.mem_append_right _ (List.mem_append_right _ (List.mem_append_right _ (List.mem_append_right _ (List.mem_append_right _ (List.mem_append_left _ h))))))))))))))))))))))))))))))))))
theorem lk_r25 : ∀ w ∈ wsL_law_r25, w ∈ wsL_law := fun w h => List.mem_append_left _ (List.mem_append_left _ (List.mem_append_left _ (List.mem_append_left _ (List.mem_append_left _ (List.mem_append_left _ (List.mem_append_left _ (List.mem_append_left _ (List.mem_append_left _ (List.mem_append_left _ (List.mem_append_left _ (List.mem_append_right _ (List.mem_append_right _ (List.mem_append_right _ (List.mem_append_right _ (List.mem_append_right _ (List.mem_append_right _ (List.mem_append_right _ (List.mem_append_right _ (List.mem_append_right _ (List.mem_append_right _ (List.mem_append_right _ (List.mem_append_right _ (List.mem_append_right _ (List.mem_append_right _ (List.mem_append_right _ (List.mem_append_right _ (List.mem_append_right _ (List.mem_append_right _ (List.mem_append_right _ (List.mem_append_right _ (List.mem_append_right _ (List.mem_append_right _ (List.mem_append_right _ (List.mem_append_right _ (List.mem_append_left _ h)))))))))))))))))))))))))))))))))))
theorem lk_r26 : ∀ w ∈ wsL_law_r26, w ∈ wsL_law := fun w h => List.mem_append_left _ (List.mem_append_left _ (List.mem_append_left _ (List.mem_append_left _ (List.mem_append_left _ (List.mem_append_left _ (List.mem_append_left _ (List.mem_append_left _ (List.mem_append_left _ (List.mem_append_left _ (List.mem_append_left _ (List.mem_append_right _ (List.mem_append_right _ (List.mem_append_right _ (List.mem_append_right _ (List.mem_append_right _ (List.mem_append_right _ (List.mem_append_right _ (List.mem_append_right _ (List.mem_append_right _ (List.mem_append_right _ (List.mem_append_right _ (List.mem_append_right _ (List.mem_append_right _ (List.mem_append_right _ (List.mem_append_right _ (List.mem_append_right _ (List.mem_append_right _ (List.mem_append_right _ (List.mem_append_right _ (List.mem_append_right _ (List.mem_append_right _ (List.mem_append_right _ (List.mem_append_right _ (List.mem_append_right _ (List.mem_append_right _ (List.mem_append_left _ h))))))))))))))))))))))))))))))))))))
theorem lk_r27 : ∀ w ∈ wsL_law_r27, w ∈ wsL_law := fun w h => List.mem_append_left _ (List.mem_append_left _ (List.mem_append_left _ (List.mem_append_left _ (List.mem_append_left _ (List.mem_append_left _ (List.mem_append_left _ (List.mem_append_left _ (List.mem_append_left _ (List.mem_append_left _ (List.mem_append_left _ (List.mem_append_right _ (List.mem_append_right _ (List.mem_append_right _ (List.mem_append_right _ (List.mem_append_right _ (List.mem_append_right _ (List.mem_append_right _ (List.mem_append_right _ (List.mem_append_right _ (List.mem_append_right _ (List.mem_append_right _ (List.mem_append_right _ (List.mem_append_right _ (List.mem_append_right _ (List.mem_append_right _ (List.mem_append_right _ (List.mem_append_right _ (List.mem_append_right _ (List.mem_append_right _ (List.mem_append_right _ (List.mem_append_right _ (List.mem_append_right _ (List.mem_append_right _ (List.mem_append_right _ (List.mem_append_right _ (List.mem_append_right _ (List.mem_append_left _ h)))))))))))))))))))))))))))))))))))))
theorem lk_r28 : ∀ w ∈ wsL_law_r28, w ∈ wsL_law := fun w h => List.mem_append_left _ (List.mem_append_left _ (List.mem_append_left _ (List.mem_append_left _ (List.mem_append_left _ (List.mem_append_left _ (List.mem_append_left _ (List.mem_append_left _ (List.mem_append_left _ (List.mem_append_left _ (List.mem_append_left _ (List.mem_append_right _ (List.mem_append_right _ (List.mem_append_right _ (List.mem_append_right _ (List.mem_append_right _ (List.mem_append_right _ (List.mem_append_right _ (List.mem_append_right _ (List.mem_append_right _ (List.mem_append_right _ (List.mem_append_right _ (List.mem_append_right _ (List.mem_append_right _ (List.mem_append_right _ (List.mem_append_right _ (List.mem_append_right _ (List.mem_append_right _ (List.mem_append_right _ (List.mem_append_right _ (List.mem_append_right _ (List.mem_append_right _ (List.mem_append_right _ (List.mem_append_right _ (List.mem_append_right _ (List.mem_append_right _ (List.mem_append_right _ (List.mem_append_right _ (List.mem_append_left _ h))))))))))))))))))))))))))))))))))))))
theorem lk_r29 : ∀ w ∈ wsL_law_r29, w ∈ wsL_law := fun w h => List.mem_append_left _ (List.mem_append_left _ (List.mem_append_left _ (List.mem_append_left _ (List.mem_append_left _ (List.mem_append_left _ (List.mem_append_left _ (List.mem_append_left _ (List.mem_append_left _ (List.mem_append_left _ (List.mem_append_left _ (List.mem_append_right _ (List.mem_append_right _ (List.mem_append_right _ (List.mem_append_right _ (List.mem_append_right _ (List.mem_append_right _ (List.mem_append_right _ (List.mem_append_right _ (List.mem_append_right _ (List.mem_append_right _ (List.mem_append_right _ (List.mem_append_right _ (List.mem_append_right _ (List.mem_append_right _ (List.mem_append_right _ (List.mem_append_right _ (List.mem_append_right _ (List.mem_append_right _ (List.mem_append_right _ (List.mem_append_right _ (List.mem_append_right _ (List.mem_append_right _ (List.mem_append_right _ (List.mem_append_right _ (List.mem_append_right _ (List.mem_append_right _ (List.mem_append_right _ (List.mem_append_right _ (List.mem_append_left _ h)))))))))))))))))))))))))))))))))))))))
theorem lk_r30 : ∀ w ∈ wsL_law_r30, w ∈ wsL_law := fun w h => List.mem_append_left _ (List.mem_append_left _ (List.mem_append_left _ (List.mem_append_left _ (List.mem_append_left _ (List.mem_append_left _ (List.mem_append_left _ (List.mem_append_left _ (List.mem_append_left _ (List.mem_append_left _ (List.mem_append_left _ (List.mem_append_right _ (List.mem_append_right _ (List.mem_append_right _ (List.mem_append_right _ (List.mem_append_right _ (List.mem_append_right _ (List.mem_append_right _ (List.mem_append_right _ (List.mem_append_right _ (List.mem_append_right _ (List.mem_append_right _ (List.mem_append_right _ (List.mem_append_right _ (List.mem_append_right _ (List.mem_append_right _ (List.mem_append_right _ (List.mem_append_right _ (List.mem_append_right _ (List.mem_append_right _ (List.mem_append_right _ (List.mem_append_right _ (List.mem_append_right _ (List.mem_append_right _ (List.mem_append_right _ (List.mem_append_right _ (List.mem_append_right _ (List.mem_append_right _ (List.mem_append_right _ (List.mem_append_right _ (List.mem_append_left _ h))))))))))))))))))))))))))))))))))))))))
theorem lk_r31 : ∀ w ∈ wsL_law_r31, w ∈ wsL_law := fun w h => List.mem_append_left _ (List.mem_append_left _ (List.mem_append_left _ (List.mem_append_left _ (List.mem_append_left _ (List.mem_append_left _ (List.mem_append_left _ (List.mem_append_left _ (List.mem_append_left _ (List.mem_append_left _ (List.mem_append_left _ (List.mem_append_right _ (List.mem_append_right _ (List.mem_append_right _ (List.mem_append_right _ (List.mem_append_right _ (List.mem_append_right _ (List.mem_append_right _ (List.mem_append_right _ (List.mem_append_right _ (List.mem_append_right _ (List.mem_append_right _ (List.mem_append_right _ (List.mem_append_right _ (List.mem_append_right _ (List.mem_append_right _ (List.mem_append_right _ (List.mem_append_right _ (List.mem_append_right _ (List.mem_append_right _ (List.mem_append_right _ (List.mem_append_right _ (List.mem_append_right _ (List.mem_append_right _ (List.mem_append_right _ (List.mem_append_right _ (List.mem_append_right _ (List.mem_append_right _ (List.mem_append_right _ (List.mem_append_right _ (List.mem_append_right _ (List.mem_append_left _ h)))))))))))))))))))))))))))))))))))))))))
theorem lk_r32 : ∀ w ∈ wsL_law_r32, w ∈ wsL_law := fun w h => List.mem_append_left _ (List.mem_append_left _ (List.mem_append_left _ (List.mem_append_left _ (List.mem_append_left _ (List.mem_append_left _ (List.mem_append_left _ (List.mem_append_left _ (List.mem_append_left _ (List.mem_append_left _ (List.mem_append_left _ (List.mem_append_right _ (List.mem_append_right _ (List.mem_append_right _ (List.mem_append_right _ (List.mem_append_right _ (List.mem_append_right _ (List.mem_append_right _ (List.mem_append_right _ (List.mem_append_right _ (List.mem_append_right _ (List.mem_append_right _ (List.mem_append_right _ (List.mem_append_right _ (List.mem_append_right _ (List.mem_append_right _ (List.mem_append_right _ (List.mem_append_right _ (List.mem_append_right _ (List.mem_append_right _ (List.mem_append_right _ (List.mem_append_right _ (List.mem_append_right _ (List.mem_append_right _ (List.mem_append_right _ (List.mem_append_right _ (List.mem_append_right _ (List.mem_append_right _ (List.mem_append_right _ (List.mem_append_right _ (List.mem_append_right _ (List.mem_append_right _ (List.mem_append_left _ h))))))))))))))))))))))))))))))))))))))))))
theorem lk_r33 : ∀ w ∈ wsL_law_r33, w ∈ wsL_law := fun w h => List.mem_append_left _ (List.mem_append_left _ (List.mem_append_left _ (List.mem_append_left _ (List.mem_append_left _ (List.mem_append_left _ (List.mem_append_left _ (List.mem_append_left _ (List.mem_append_left _ (List.mem_append_left _ (List.mem_append_left _ (List.mem_append_right _ (List.mem_append_right _ (List.mem_append_right _ (List.mem_append_right _ (List.mem_append_right _ (List.mem_append_right _ (List.mem_append_right _ (List.mem_append_right _ (List.mem_append_right _ (List.mem_append_right _ (List.mem_append_right _ (List.mem_append_right _ (List.mem_append_right _ (List.mem_append_right _ (List.mem_append_right _ (List.mem_append_right _ (List.mem_append_right _ (List.mem_append_right _ (List.mem_append_right _ (List.mem_append_right _ (List.mem_append_right _ (List.mem_append_right _ (List.mem_append_right _ (List.mem_append_right _ (List.mem_append_right _ (List.mem_append_right _ (List.mem_append_right _ (List.mem_append_right _ (List.mem_append_right _ (List.mem_append_right _ (List.mem_append_right _ (List.mem_append_right _ (List.mem_append_left _ h)))))))))))))))))))))))))))))))))))))))))))
theorem lk_r34 : ∀ w ∈ wsL_law_r34, w ∈ wsL_law := fun w h => List.mem_append_left _ (List.mem_append_left _ (List.mem_append_left _ (List.mem_append_left _ (List.mem_append_left _ (List.mem_append_left _ (List.mem_append_left _ (List.mem_append_left _ (List.mem_append_left _ (List.mem_append_left _ (List.mem_append_left _ (List.mem_append_right _ (List.mem_append_right _ (List.mem_append_right _ (List.mem_append_right _ (List.mem_append_right _ (List.mem_append_right _ (List.mem_append_right _ (List.mem_append_right _ (List.mem_append_right _ (List.mem_append_right _ (List.mem_append_right _ (List.mem_append_right _ (List.mem_append_right _ (List.mem_append_right _ (List.mem_append_right _ (List.mem_append_right _ (List.mem_append_right _ (List.mem_append_right _ (List.mem_append_right _ (List.mem_append_right _ (List.mem_append_right _ (List.mem_append_right _ (List.mem_append_right _ (List.mem_append_right _ (List.mem_append_right _ (List.mem_append_right _ (List.mem_append_right _ (List.mem_append_right _ (List.mem_append_right _ (List.mem_append_right _ (List.mem_append_right _ (List.mem_append_right _ (List.mem_append_right _ (List.mem_append_left _ h))))))))))))))))))))))))))))))))))))))))))))
theorem lk_r35 : ∀ w ∈ wsL_law_r35, w ∈ wsL_law := fun w h => List.mem_append_left _ (List.mem_append_left _ (List.mem_append_left _ (List.mem_append_left _ (List.mem_append_left _ (List.mem_append_left _ (List.mem_append_left _ (List.mem_append_left _ (List.mem_append_left _ (List.mem_append_left _ (List.mem_append_left _ (List.mem_append_right _ (List.mem_append_right _ (List.mem_append_right _ (List.mem_append_right _ (List.mem_append_right _ (List.mem_append_right _ (List.mem_append_right _ (List.mem_append_right _ (List.mem_append_right _ (List.mem_append_right _ (List.mem_append_right _ (List.mem_append_right _ (List.mem_append_right _ (List.mem_append_right _ (List.mem_append_right _ (List.mem_append_right _ (List.mem_append_right _ (List.mem_append_right _ (List.mem_append_right _ (List.mem_append_right _ (List.mem_append_right _ (List.mem_append_right _ (List.mem_append_right _ (List.mem_append_right _ (List.mem_append_right _ (List.mem_append_right _ (List.mem_append_right _ (List.mem_append_right _ (List.mem_append_right _ (List.mem_append_right _ (List.mem_append_right _ (List.mem_append_right _ (List.mem_append_right _ (List.mem_append_right _ (List.mem_append_left _ h)))))))))))))))))))))))))))))))))))))))))))))
theorem lk_r36 : ∀ w ∈ wsL_law_r36, w ∈ wsL_law := fun w h => List.mem_append_left _ (List.mem_append_left _ (List.mem_append_left _ (List.mem_append_left _ (List.mem_append_left _ (List.mem_append_left _ (List.mem_append_left _ (List.mem_append_left _ (List.mem_append_left _ (List.mem_append_left _ (List.mem_append_left _ (List.mem_append_right _ (List.mem_append_right _ (List.mem_append_right _ (List.mem_append_right _ (List.mem_append_right _ (List.mem_append_right _ (List.mem_append_right _ (List.mem_append_right _ (List.mem_append_right _ (List.mem_append_right _ (List.mem_append_right _ (List.mem_append_right _ (List.mem_append_right _ (List.mem_append_right _ (List.mem_append_right _ (List.mem_append_right _ (List.mem_append_right _ (List.mem_append_right _ (List.mem_append_right _ (List.mem_append_right _ (List.mem_append_right _ (List.mem_append_right _ (List.mem_append_right _ (List.mem_append_right _ (List.mem_append_right _ (List.mem_append_right _ (List.mem_append_right _ (List.mem_append_right _ (List.mem_append_right _ (List.mem_append_right _ (List.mem_append_right _ (List.mem_append_right _ (List.mem_append_right _ (List.mem_append_right _ (List.mem_append_right _ (List.mem_append_left _ h))))))))))))))))))))))))))))))))))))))))))))))
theorem lk_r37 : ∀ w ∈ wsL_law_r37, w ∈ wsL_law := fun w h => List.mem_append_left _ (List.mem_append_left _ (List.mem_append_left _ (List.mem_append_left _ (List.mem_append_left _ (List.mem_append_left _ (List.mem_append_left _ (List.mem_append_left _ (List.mem_append_left _ (List.mem_append_left _ (List.mem_append_left _ (List.mem_append_right _ (List.mem_append_right _ (List.mem_append_right _ (List.mem_append_right _ (List.mem_append_right _ (List.mem_append_right _ (List.mem_append_right _ (List.mem_append_right _ (List.mem_append_right _ (List.mem_append_right _ (List.mem_append_right _ (List.mem_append_right _ (List.mem_append_right _ (List.mem_append_right _ (List.mem_append_right _ (List.mem_append_right _ (List.mem_append_right _ (List.mem_append_right _ (List.mem_append_right _ (List.mem_append_right _ (List.mem_append_right _ (List.mem_append_right _ (List.mem_append_right _ (List.mem_append_right _ (List.mem_append_right _ (List.mem_append_right _ (List.mem_append_right _ (List.mem_append_right _ (List.mem_append_right _ (List.mem_append_right _ (List.mem_append_right _ (List.mem_append_right _ (List.mem_append_right _ (List.mem_append_right _ (List.mem_append_right _ (List.mem_append_right _ (List.mem_append_left _ h)))))))))))))))))))))))))))))))))))))))))))))))
theorem lk_r38 : ∀ w ∈ wsL_law_r38, w ∈ wsL_law := fun w h => List.mem_append_left _ (List.mem_append_left _ (List.mem_append_left _ (List.mem_append_left _ (List.mem_append_left _ (List.mem_append_left _ (List.mem_append_left _ (List.mem_append_left _ (List.mem_append_left _ (List.mem_append_left _ (List.mem_append_left _ (List.mem_append_right _ (List.mem_append_right _ (List.mem_append_right _ (List.mem_append_right _ (List.mem_append_right _ (List.mem_append_right _ (List.mem_append_right _ (List.mem_append_right _ (List.mem_append_right _ (List.mem_append_right _ (List.mem_append_right _ (List.mem_append_right _ (List.mem_append_right _ (List.mem_append_right _ (List.mem_append_right _ (List.mem_append_right _ (List.mem_append_right _ (List.mem_append_right _ (List.mem_append_right _ (List.mem_append_right _ (List.mem_append_right _ (List.mem_append_right _ (List.mem_append_right _ (List.mem_append_right _ (List.mem_append_right _ (List.mem_append_right _ (List.mem_append_right _ (List.mem_append_right _ (List.mem_append_right _ (List.mem_append_right _ (List.mem_append_right _ (List.mem_append_right _ (List.mem_append_right _ (List.mem_append_right _ (List.mem_append_right _ (List.mem_append_right _ (List.mem_append_right _ (List.mem_append_left _ h))))))))))))))))))))))))))))))))))))))))))))))))
theorem lk_r39 : ∀ w ∈ wsL_law_r39, w ∈ wsL_law := fun w h => List.mem_append_left _ (List.mem_append_left _ (List.mem_append_left _ (List.mem_append_left _ (List.mem_append_left _ (List.mem_append_left _ (List.mem_append_left _ (List.mem_append_left _ (List.mem_append_left _ (List.mem_append_left _ (List.mem_append_left _ (List.mem_append_right _ (List.mem_append_right _ (List.mem_append_right _ (List.mem_append_right _ (List.mem_append_right _ (List.mem_append_right _ (List.mem_append_right _ (List.mem_append_right _ (List.mem_append_right _ (List.mem_append_right _ (List.mem_append_right _ (List.mem_append_right _ (List.mem_append_right _ (List.mem_append_right _ (List.mem_append_right _ (List.mem_append_right _ (List.mem_append_right _ (List.mem_append_right _ (List.mem_append_right _ (List.mem_append_right _ (List.mem_append_right _ (List.mem_append_right _ (List.mem_append_right _ (List.mem_append_right _ (List.mem_append_right _ (List.mem_append_right _ (List.mem_append_right _ (List.mem_append_right _ (List.mem_append_right _ (List.mem_append_right _ (List.mem_append_right _ (List.mem_append_right _ (List.mem_append_right _ (List.mem_append_right _ (List.mem_append_right _ (List.mem_append_right _ (List.mem_append_right _ (List.mem_append_right _ (List.mem_append_left _ h)))))))))))))))))))))))))))))))))))))))))))))))))
theorem lk_r40 : ∀ w ∈ wsL_law_r40, w ∈ wsL_law := fun w h => List.mem_append_left _ (List.mem_append_left _ (List.mem_append_left _ (List.mem_append_left _ (List.mem_append_left _ (List.mem_append_left _ (List.mem_append_left _ (List.mem_append_left _ (List.mem_append_left _ (List.mem_append_left _ (List.mem_append_left _ (List.mem_append_right _ (List.mem_append_right _ (List.mem_append_right _ (List.mem_append_right _ (List.mem_append_right _ (List.mem_append_right _ (List.mem_append_right _ (List.mem_append_right _ (List.mem_append_right _ (List.mem_append_right _ (List.mem_append_right _ (List.mem_append_right _ (List.mem_append_right _ (List.mem_append_right _ (List.mem_append_right _ (List.mem_append_right _ (List.mem_append_right _ (List.mem_append_right _ (List.mem_append_right _ (List.mem_append_right _ (List.mem_append_right _ (List.mem_append_right _ (List.mem_append_right _ (List.mem_append_right _ (List.mem_append_right _ (List.mem_append_right _ (List.mem_append_right _ (List.mem_append_right _ (List.mem_append_right _ (List.mem_append_right _ (List.mem_append_right _ (List.mem_append_right _ (List.mem_append_right _ (List.mem_append_right _ (List.mem_append_right _ (List.mem_append_right _ (List.mem_append_right _ (List.mem_append_right _ (List.mem_append_right _ (List.mem_append_left _ h))))))))))))))))))))))))))))))))))))))))))))))))))
theorem lk_r41 : ∀ w ∈ wsL_law_r41, w ∈ wsL_law := fun w h => List.mem_append_left _ (List.mem_append_left _ (List.mem_append_left _ (List.mem_append_left _ (List.mem_append_left _ (List.mem_append_left _ (List.mem_append_left _ (List.mem_append_left _ (List.mem_append_left _ (List.mem_append_left _ (List.mem_append_left _ (List.mem_append_right _ (List.mem_append_right _ (List.mem_append_right _ (List.mem_append_right _ (List.mem_append_right _ (List.mem_append_right _ (List.mem_append_right _ (List.mem_append_right _ (List.mem_append_right _ (List.mem_append_right _ (List.mem_append_right _ (List.mem_append_right _ (List.mem_append_right _ (List.mem_append_right _ (List.mem_append_right _ (List.mem_append_right _ (List.mem_append_right _ (List.mem_append_right _ (List.mem_append_right _ (List.mem_append_right _ (List.mem_append_right _ (List.mem_append_right _ (List.mem_append_right _ (List.mem_append_right _ (List.mem_append_right _ (List.mem_append_right _ (List.mem_append_right _ (List.mem_append_right _ (List.mem_append_right _ (List.mem_append_right _ (List.mem_append_right _ (List.mem_append_right _ (List.mem_append_right _ (List.mem_append_right _ (List.mem_append_right _ (List.mem_append_right _ (List.mem_append_right _ (List.mem_append_right _ (List.mem_append_right _ (List.mem_append_right _ (List.mem_append_left _ h)))))))))))))))))))))))))))))))))))))))))))))))))))
theorem lk_r42 : ∀ w ∈ wsL_law_r42, w ∈ wsL_law := fun w h => List.mem_append_left _ (List.mem_append_left _ (List.mem_append_left _ (List.mem_append_left _ (List.mem_append_left _ (List.mem_append_left _ (List.mem_append_left _ (List.mem_append_left _ (List.mem_append_left _ (List.mem_append_left _ (List.mem_append_left _ (List.mem_append_right _ (List.mem_append_right _ (List.mem_append_right _ (List.mem_append_right _ (List.mem_append_right _ (List.mem_append_right _ (List.mem_append_right _ (List.mem_append_right _ (List.mem_append_right _ (List.mem_append_right _ (List.mem_append_right _ (List.mem_append_right _ (List.mem_append_right _ (List.mem_append_right _ (List.mem_append_right _ (List.mem_append_right _ (List.mem_append_right _ (List.mem_append_right _ (List.mem_append_right _ (List.mem_append_right _ (List.mem_append_right _ (List.mem_append_right _ (List.mem_append_right _ (List.mem_append_right _ (List.mem_append_right _ (List.mem_append_right _ (List.mem_append_right _ (List.mem_append_right _ (List.mem_append_right _ (List.mem_append_right _ (List.mem_append_right _ (List.mem_append_right _ (List.mem_append_right _ (List.mem_append_right _ (List.mem_append_right _ (List.mem_append_right _ (List.mem_append_right _ (List.mem_append_right _ (List.mem_append_right _ (List.mem_append_right _ (List.mem_append_right _ (List.mem_append_left _ h))))))))))))))))))))))))))))))))))))))))))))))))))))
theorem lk_r43 : ∀ w ∈ wsL_law_r43, w ∈ wsL_law := fun w h => List.mem_append_left _ (List.mem_append_left _ (List.mem_append_left _ (List.mem_append_left _ (List.mem_append_left _ (List.mem_append_left _ (List.mem_append_left _ (List.mem_append_left _ (List.mem_append_left _ (List.mem_append_left _ (List.mem_append_left _ (List.mem_append_right _ (List.mem_append_right _ (List.mem_append_right _ (List.mem_append_right _ (List.mem_append_right _ (List.mem_append_right _ (List.mem_append_right _ (List.mem_append_right _ (List.mem_append_right _ (List.mem_append_right _ (List.mem_append_right _ (List.mem_append_right _ (List.mem_append_right _ (List.mem_append_right _ (List.mem_append_right _ (List.mem_append_right _ (List.mem_append_right _ (List.mem_append_right _ (List.mem_append_right _ (List.mem_append_right _ (List.mem_append_right _ (List.mem_append_right _ (List.mem_append_right _ (List.mem_append_right _ (List.mem_append_right _ (List.mem_append_right _ (List.mem_append_right _ (List.mem_append_right _ (List.mem_append_right _ (List.mem_append_right _ (List.mem_append_right _ (List.mem_append_right _ (List.mem_append_right _ (List.mem_append_right _ (List.mem_append_right _ (List.mem_append_right _ (List.mem_append_right _ (List.mem_append_right _ (List.mem_append_right _ (List.mem_append_right _ (List.mem_append_right _ (List.mem_append_right _ (h)))))))))))))))))))))))))))))))))))))))))))))))))))))

abbrev mX8_init : MD := (yX8_init, cX8_init, 1, none, RX8)
theorem kmX8_init : MKI mX8_init 0 := ⟨(lk_r1 _ (List.mem_of_getElem? (i := 8) rfl)), (lk_r1 _ (List.mem_of_getElem? (i := 2) rfl)), (lk_r1 _ (List.mem_of_getElem? (i := 7) rfl)), by decide +kernel, by decide, rfl⟩
abbrev mX0_init : MD := (yX0_init, cX0_init, 1, none, RX0)
theorem kmX0_init : MKI mX0_init 0 := ⟨(lk_r3 _ (List.mem_of_getElem? (i := 4) rfl)), (lk_r1 _ (List.mem_of_getElem? (i := 14) rfl)), (lk_r3 _ (List.mem_of_getElem? (i := 3) rfl)), by decide +kernel, by decide, rfl⟩
abbrev mX2_init : MD := (yX2_init, cX2_init, 2, none, RX2)
theorem kmX2_init : MKI mX2_init 0 := ⟨(lk_r3 _ (List.mem_of_getElem? (i := 10) rfl)), (lk_r1 _ (List.mem_of_getElem? (i := 21) rfl)), (lk_r3 _ (List.mem_of_getElem? (i := 9) rfl)), by decide +kernel, by decide, rfl⟩
abbrev mX5_init : MD := (yX5_init, cX5_init, 2, none, RX5)
theorem kmX5_init : MKI mX5_init 0 := ⟨(lk_r3 _ (List.mem_of_getElem? (i := 17) rfl)), (lk_r2 _ (List.mem_of_getElem? (i := 1) rfl)), (lk_r3 _ (List.mem_of_getElem? (i := 16) rfl)), by decide +kernel, by decide, rfl⟩
abbrev mX7_init : MD := (yX7_init, cX7_init, 1, none, RX7)
theorem kmX7_init : MKI mX7_init 0 := ⟨(lk_r3 _ (List.mem_of_getElem? (i := 23) rfl)), (lk_r2 _ (List.mem_of_getElem? (i := 6) rfl)), (lk_r3 _ (List.mem_of_getElem? (i := 22) rfl)), by decide +kernel, by decide, rfl⟩
abbrev mX4_init : MD := (yX4_init, cX4_init, 1, none, RX4)
theorem kmX4_init : MKI mX4_init 0 := ⟨(lk_r4 _ (List.mem_of_getElem? (i := 6) rfl)), (lk_r2 _ (List.mem_of_getElem? (i := 10) rfl)), (lk_r4 _ (List.mem_of_getElem? (i := 5) rfl)), by decide +kernel, by decide, rfl⟩
abbrev mX1_init : MD := (yX1_init, cX1_init, 1, none, RX1)
theorem kmX1_init : MKI mX1_init 0 := ⟨(lk_r4 _ (List.mem_of_getElem? (i := 13) rfl)), (lk_r2 _ (List.mem_of_getElem? (i := 14) rfl)), (lk_r4 _ (List.mem_of_getElem? (i := 12) rfl)), by decide +kernel, by decide, rfl⟩
abbrev mX3_init : MD := (yX3_init, cX3_init, 2, none, RX3)
theorem kmX3_init : MKI mX3_init 0 := ⟨(lk_r4 _ (List.mem_of_getElem? (i := 18) rfl)), (lk_r2 _ (List.mem_of_getElem? (i := 18) rfl)), (lk_r4 _ (List.mem_of_getElem? (i := 17) rfl)), by decide +kernel, by decide, rfl⟩
abbrev mX6_init : MD := (yX6_init, cX6_init, 1, none, RX6)
theorem kmX6_init : MKI mX6_init 0 := ⟨(lk_r4 _ (List.mem_of_getElem? (i := 23) rfl)), (lk_r2 _ (List.mem_of_getElem? (i := 22) rfl)), (lk_r4 _ (List.mem_of_getElem? (i := 22) rfl)), by decide +kernel, by decide, rfl⟩
abbrev mX9_init : MD := (yX9_init, cX9_init, 2, none, RX9)
theorem kmX9_init : MKI mX9_init 0 := ⟨(lk_r5 _ (List.mem_of_getElem? (i := 7) rfl)), (lk_r1 _ (List.mem_of_getElem? (i := 5) rfl)), (lk_r5 _ (List.mem_of_getElem? (i := 6) rfl)), by decide +kernel, by decide, rfl⟩
abbrev mX8_bodies : MD := (yX8_bodies, cX8_bodies, 3, (some .int), RX8)
theorem kmX8_bodies : MKV mX8_bodies 1 := ⟨(lk_r6 _ (List.mem_of_getElem? (i := 15) rfl)), (lk_r1 _ (List.mem_of_getElem? (i := 2) rfl)), (lk_r6 _ (List.mem_of_getElem? (i := 13) rfl)), (lk_r6 _ (List.mem_of_getElem? (i := 14) rfl)), by decide +kernel, by decide, rfl⟩
abbrev mX0_empty : MD := (yX0_empty, cX0_empty, 3, none, RX0)
theorem kmX0_empty : MKV mX0_empty 1 := ⟨(lk_r6 _ (List.mem_of_getElem? (i := 19) rfl)), (lk_r1 _ (List.mem_of_getElem? (i := 14) rfl)), (lk_r6 _ (List.mem_of_getElem? (i := 17) rfl)), (lk_r6 _ (List.mem_of_getElem? (i := 18) rfl)), by decide +kernel, by decide, rfl⟩
abbrev mX2_forget : MD := (yX2_forget, cX2_forget, 1, none, RX2)
theorem kmX2_forget : MKV mX2_forget 0 := ⟨(lk_r6 _ (List.mem_of_getElem? (i := 23) rfl)), (lk_r1 _ (List.mem_of_getElem? (i := 21) rfl)), (lk_r6 _ (List.mem_of_getElem? (i := 21) rfl)), (lk_r6 _ (List.mem_of_getElem? (i := 22) rfl)), by decide +kernel, by decide, rfl⟩
abbrev mX9_bodies : MD := (yX9_bodies, cX9_bodies, 4, (some .int), RX9)
theorem kmX9_bodies : MKV mX9_bodies 1 := ⟨(lk_r7 _ (List.mem_of_getElem? (i := 4) rfl)), (lk_r1 _ (List.mem_of_getElem? (i := 5) rfl)), (lk_r7 _ (List.mem_of_getElem? (i := 2) rfl)), (lk_r7 _ (List.mem_of_getElem? (i := 3) rfl)), by decide +kernel, by decide, rfl⟩
abbrev mX9_in : MD := (yX9_in, cX9_in, 3, (some .boolean), RX9)
theorem kmX9_in : MKS mX9_in 3 := ⟨(lk_r7 _ (List.mem_of_getElem? (i := 8) rfl)), (lk_r1 _ (List.mem_of_getElem? (i := 5) rfl)), (lk_r7 _ (List.mem_of_getElem? (i := 7) rfl)), by decide +kernel, by decide, rfl⟩
abbrev mX8_make : MD := (yX8_make, cX8_make, 2, (some .int), RX8)
theorem kmX8_make : MKV mX8_make 1 := ⟨(lk_r7 _ (List.mem_of_getElem? (i := 12) rfl)), (lk_r1 _ (List.mem_of_getElem? (i := 2) rfl)), (lk_r7 _ (List.mem_of_getElem? (i := 10) rfl)), (lk_r7 _ (List.mem_of_getElem? (i := 11) rfl)), by decide +kernel, by decide, rfl⟩
abbrev mX2_note : MD := (yX2_note, cX2_note, 2, none, RX2)
theorem kmX2_note : MKV mX2_note 1 := ⟨(lk_r7 _ (List.mem_of_getElem? (i := 16) rfl)), (lk_r1 _ (List.mem_of_getElem? (i := 21) rfl)), (lk_r7 _ (List.mem_of_getElem? (i := 14) rfl)), (lk_r7 _ (List.mem_of_getElem? (i := 15) rfl)), by decide +kernel, by decide, rfl⟩
abbrev mX0_copyOf : MD := (yX0_copyOf, cX0_copyOf, 2, none, RX0)
theorem kmX0_copyOf : MKV mX0_copyOf 1 := ⟨(lk_r8 _ (List.mem_of_getElem? (i := 1) rfl)), (lk_r1 _ (List.mem_of_getElem? (i := 14) rfl)), (lk_r7 _ (List.mem_of_getElem? (i := 23) rfl)), (lk_r8 _ (List.mem_of_getElem? (i := 0) rfl)), by decide +kernel, by decide, rfl⟩
abbrev mX0_become : MD := (yX0_become, cX0_become, 2, none, RX0)
theorem kmX0_become : MKV mX0_become 1 := ⟨(lk_r8 _ (List.mem_of_getElem? (i := 9) rfl)), (lk_r1 _ (List.mem_of_getElem? (i := 14) rfl)), (lk_r8 _ (List.mem_of_getElem? (i := 7) rfl)), (lk_r8 _ (List.mem_of_getElem? (i := 8) rfl)), by decide +kernel, by decide, rfl⟩
abbrev mX0_arc : MD := (yX0_arc, cX0_arc, 3, (some .int), RX0)
theorem kmX0_arc : MKV mX0_arc 1 := ⟨(lk_r8 _ (List.mem_of_getElem? (i := 14) rfl)), (lk_r1 _ (List.mem_of_getElem? (i := 14) rfl)), (lk_r8 _ (List.mem_of_getElem? (i := 12) rfl)), (lk_r8 _ (List.mem_of_getElem? (i := 13) rfl)), by decide +kernel, by decide, rfl⟩
abbrev mX0_toggle : MD := (yX0_toggle, cX0_toggle, 6, none, RX0)
theorem kmX0_toggle : MKV mX0_toggle 1 := ⟨(lk_r8 _ (List.mem_of_getElem? (i := 18) rfl)), (lk_r1 _ (List.mem_of_getElem? (i := 14) rfl)), (lk_r8 _ (List.mem_of_getElem? (i := 16) rfl)), (lk_r8 _ (List.mem_of_getElem? (i := 17) rfl)), by decide +kernel, by decide, rfl⟩
abbrev mX0_toggleAround : MD := (yX0_toggleAround, cX0_toggleAround, 3, none, RX0)
theorem kmX0_toggleAround : MKV mX0_toggleAround 1 := ⟨(lk_r8 _ (List.mem_of_getElem? (i := 22) rfl)), (lk_r1 _ (List.mem_of_getElem? (i := 14) rfl)), (lk_r8 _ (List.mem_of_getElem? (i := 20) rfl)), (lk_r8 _ (List.mem_of_getElem? (i := 21) rfl)), by decide +kernel, by decide, rfl⟩
abbrev mX0_addArcs : MD := (yX0_addArcs, cX0_addArcs, 3, none, RX0)
theorem kmX0_addArcs : MKV mX0_addArcs 1 := ⟨(lk_r9 _ (List.mem_of_getElem? (i := 2) rfl)), (lk_r1 _ (List.mem_of_getElem? (i := 14) rfl)), (lk_r9 _ (List.mem_of_getElem? (i := 0) rfl)), (lk_r9 _ (List.mem_of_getElem? (i := 1) rfl)), by decide +kernel, by decide, rfl⟩
abbrev mX0_addCross : MD := (yX0_addCross, cX0_addCross, 4, none, RX0)
theorem kmX0_addCross : MKV mX0_addCross 0 := ⟨(lk_r9 _ (List.mem_of_getElem? (i := 6) rfl)), (lk_r1 _ (List.mem_of_getElem? (i := 14) rfl)), (lk_r9 _ (List.mem_of_getElem? (i := 4) rfl)), (lk_r9 _ (List.mem_of_getElem? (i := 5) rfl)), by decide +kernel, by decide, rfl⟩
abbrev mX0_total : MD := (yX0_total, cX0_total, 1, (some .int), RX0)
theorem kmX0_total : MKV mX0_total 0 := ⟨(lk_r9 _ (List.mem_of_getElem? (i := 10) rfl)), (lk_r1 _ (List.mem_of_getElem? (i := 14) rfl)), (lk_r9 _ (List.mem_of_getElem? (i := 8) rfl)), (lk_r9 _ (List.mem_of_getElem? (i := 9) rfl)), by decide +kernel, by decide, rfl⟩
abbrev mX9_make : MD := (yX9_make, cX9_make, 3, (some .int), RX9)
theorem kmX9_make : MKV mX9_make 1 := ⟨(lk_r9 _ (List.mem_of_getElem? (i := 14) rfl)), (lk_r1 _ (List.mem_of_getElem? (i := 5) rfl)), (lk_r9 _ (List.mem_of_getElem? (i := 12) rfl)), (lk_r9 _ (List.mem_of_getElem? (i := 13) rfl)), by decide +kernel, by decide, rfl⟩
abbrev mX9_remembers : MD := (yX9_remembers, cX9_remembers, 2, none, RX9)
theorem kmX9_remembers : MKV mX9_remembers 0 := ⟨(lk_r9 _ (List.mem_of_getElem? (i := 18) rfl)), (lk_r1 _ (List.mem_of_getElem? (i := 5) rfl)), (lk_r9 _ (List.mem_of_getElem? (i := 16) rfl)), (lk_r9 _ (List.mem_of_getElem? (i := 17) rfl)), by decide +kernel, by decide, rfl⟩
abbrev mX9_lays : MD := (yX9_lays, cX9_lays, 2, none, RX9)
theorem kmX9_lays : MKS mX9_lays 2 := ⟨(lk_r9 _ (List.mem_of_getElem? (i := 21) rfl)), (lk_r1 _ (List.mem_of_getElem? (i := 5) rfl)), (lk_r9 _ (List.mem_of_getElem? (i := 20) rfl)), by decide +kernel, by decide, rfl⟩
abbrev mX9_many : MD := (yX9_many, cX9_many, 1, (some .int), RX9)
theorem kmX9_many : MKS mX9_many 1 := ⟨(lk_r10 _ (List.mem_of_getElem? (i := 1) rfl)), (lk_r1 _ (List.mem_of_getElem? (i := 5) rfl)), (lk_r10 _ (List.mem_of_getElem? (i := 0) rfl)), by decide +kernel, by decide, rfl⟩
abbrev mJ6_bitCount_0f7a4 : MD := (yJ6_bitCount_0f7a4, cJ6_bitCount_0f7a4, 1, (some .int), RJ6)
theorem kmJ6_bitCount_0f7a4 : MKS mJ6_bitCount_0f7a4 1 := ⟨(lk_r10 _ (List.mem_of_getElem? (i := 5) rfl)), (lk_r10 _ (List.mem_of_getElem? (i := 4) rfl)), (lk_r10 _ (List.mem_of_getElem? (i := 3) rfl)), by decide +kernel, by decide, rfl⟩
abbrev mX9_isCross : MD := (yX9_isCross, cX9_isCross, 4, (some .boolean), RX9)
theorem kmX9_isCross : MKV mX9_isCross 1 := ⟨(lk_r10 _ (List.mem_of_getElem? (i := 12) rfl)), (lk_r1 _ (List.mem_of_getElem? (i := 5) rfl)), (lk_r10 _ (List.mem_of_getElem? (i := 10) rfl)), (lk_r10 _ (List.mem_of_getElem? (i := 11) rfl)), by decide +kernel, by decide, rfl⟩
abbrev mX9_isOne : MD := (yX9_isOne, cX9_isOne, 2, (some .boolean), RX9)
theorem kmX9_isOne : MKS mX9_isOne 2 := ⟨(lk_r10 _ (List.mem_of_getElem? (i := 15) rfl)), (lk_r1 _ (List.mem_of_getElem? (i := 5) rfl)), (lk_r10 _ (List.mem_of_getElem? (i := 14) rfl)), by decide +kernel, by decide, rfl⟩
abbrev mX9_run : MD := (yX9_run, cX9_run, 4, (some .int), RX9)
theorem kmX9_run : MKV mX9_run 1 := ⟨(lk_r10 _ (List.mem_of_getElem? (i := 19) rfl)), (lk_r1 _ (List.mem_of_getElem? (i := 5) rfl)), (lk_r10 _ (List.mem_of_getElem? (i := 17) rfl)), (lk_r10 _ (List.mem_of_getElem? (i := 18) rfl)), by decide +kernel, by decide, rfl⟩
abbrev mX9_bodiesOf : MD := (yX9_bodiesOf, cX9_bodiesOf, 3, (some .int), RX9)
theorem kmX9_bodiesOf : MKS mX9_bodiesOf 1 := ⟨(lk_r10 _ (List.mem_of_getElem? (i := 22) rfl)), (lk_r1 _ (List.mem_of_getElem? (i := 5) rfl)), (lk_r10 _ (List.mem_of_getElem? (i := 21) rfl)), by decide +kernel, by decide, rfl⟩
abbrev mX8_body : MD := (yX8_body, cX8_body, 2, (some .int), RX8)
theorem kmX8_body : MKV mX8_body 1 := ⟨(lk_r11 _ (List.mem_of_getElem? (i := 2) rfl)), (lk_r1 _ (List.mem_of_getElem? (i := 2) rfl)), (lk_r11 _ (List.mem_of_getElem? (i := 0) rfl)), (lk_r11 _ (List.mem_of_getElem? (i := 1) rfl)), by decide +kernel, by decide, rfl⟩
abbrev mX9_body : MD := (yX9_body, cX9_body, 2, (some .int), RX9)
theorem kmX9_body : MKV mX9_body 1 := ⟨(lk_r11 _ (List.mem_of_getElem? (i := 8) rfl)), (lk_r1 _ (List.mem_of_getElem? (i := 5) rfl)), (lk_r11 _ (List.mem_of_getElem? (i := 6) rfl)), (lk_r11 _ (List.mem_of_getElem? (i := 7) rfl)), by decide +kernel, by decide, rfl⟩
abbrev mX9_isBody : MD := (yX9_isBody, cX9_isBody, 2, (some .boolean), RX9)
theorem kmX9_isBody : MKV mX9_isBody 1 := ⟨(lk_r11 _ (List.mem_of_getElem? (i := 12) rfl)), (lk_r1 _ (List.mem_of_getElem? (i := 5) rfl)), (lk_r11 _ (List.mem_of_getElem? (i := 10) rfl)), (lk_r11 _ (List.mem_of_getElem? (i := 11) rfl)), by decide +kernel, by decide, rfl⟩
abbrev mX9_isSet : MD := (yX9_isSet, cX9_isSet, 1, (some .boolean), RX9)
theorem kmX9_isSet : MKS mX9_isSet 1 := ⟨(lk_r11 _ (List.mem_of_getElem? (i := 15) rfl)), (lk_r1 _ (List.mem_of_getElem? (i := 5) rfl)), (lk_r11 _ (List.mem_of_getElem? (i := 14) rfl)), by decide +kernel, by decide, rfl⟩
abbrev mX8_bodyOf : MD := (yX8_bodyOf, cX8_bodyOf, 2, (some .int), RX8)
theorem kmX8_bodyOf : MKV mX8_bodyOf 1 := ⟨(lk_r11 _ (List.mem_of_getElem? (i := 19) rfl)), (lk_r1 _ (List.mem_of_getElem? (i := 2) rfl)), (lk_r11 _ (List.mem_of_getElem? (i := 17) rfl)), (lk_r11 _ (List.mem_of_getElem? (i := 18) rfl)), by decide +kernel, by decide, rfl⟩
abbrev mX0_setAt : MD := (yX0_setAt, cX0_setAt, 6, (some .int), RX0)
theorem kmX0_setAt : MKV mX0_setAt 3 := ⟨(lk_r11 _ (List.mem_of_getElem? (i := 23) rfl)), (lk_r1 _ (List.mem_of_getElem? (i := 14) rfl)), (lk_r11 _ (List.mem_of_getElem? (i := 21) rfl)), (lk_r11 _ (List.mem_of_getElem? (i := 22) rfl)), by decide +kernel, by decide, rfl⟩
abbrev mX9_bodyOf : MD := (yX9_bodyOf, cX9_bodyOf, 4, (some .int), RX9)
theorem kmX9_bodyOf : MKV mX9_bodyOf 1 := ⟨(lk_r12 _ (List.mem_of_getElem? (i := 4) rfl)), (lk_r1 _ (List.mem_of_getElem? (i := 5) rfl)), (lk_r12 _ (List.mem_of_getElem? (i := 2) rfl)), (lk_r12 _ (List.mem_of_getElem? (i := 3) rfl)), by decide +kernel, by decide, rfl⟩
abbrev mX8_heap : MD := (yX8_heap, cX8_heap, 2, (some .int), RX8)
theorem kmX8_heap : MKV mX8_heap 1 := ⟨(lk_r12 _ (List.mem_of_getElem? (i := 8) rfl)), (lk_r1 _ (List.mem_of_getElem? (i := 2) rfl)), (lk_r12 _ (List.mem_of_getElem? (i := 6) rfl)), (lk_r12 _ (List.mem_of_getElem? (i := 7) rfl)), by decide +kernel, by decide, rfl⟩
abbrev mX0_there : MD := (yX0_there, cX0_there, 1, (some .int), RX0)
theorem kmX0_there : MKV mX0_there 0 := ⟨(lk_r12 _ (List.mem_of_getElem? (i := 12) rfl)), (lk_r1 _ (List.mem_of_getElem? (i := 14) rfl)), (lk_r12 _ (List.mem_of_getElem? (i := 10) rfl)), (lk_r12 _ (List.mem_of_getElem? (i := 11) rfl)), by decide +kernel, by decide, rfl⟩
abbrev mX0_linkPoints : MD := (yX0_linkPoints, cX0_linkPoints, 5, (some .int), RX0)
theorem kmX0_linkPoints : MKV mX0_linkPoints 1 := ⟨(lk_r12 _ (List.mem_of_getElem? (i := 16) rfl)), (lk_r1 _ (List.mem_of_getElem? (i := 14) rfl)), (lk_r12 _ (List.mem_of_getElem? (i := 14) rfl)), (lk_r12 _ (List.mem_of_getElem? (i := 15) rfl)), by decide +kernel, by decide, rfl⟩
abbrev mX0_walls : MD := (yX0_walls, cX0_walls, 3, (some .int), RX0)
theorem kmX0_walls : MKV mX0_walls 0 := ⟨(lk_r12 _ (List.mem_of_getElem? (i := 20) rfl)), (lk_r1 _ (List.mem_of_getElem? (i := 14) rfl)), (lk_r12 _ (List.mem_of_getElem? (i := 18) rfl)), (lk_r12 _ (List.mem_of_getElem? (i := 19) rfl)), by decide +kernel, by decide, rfl⟩
abbrev mX0_isWall : MD := (yX0_isWall, cX0_isWall, 2, (some .boolean), RX0)
theorem kmX0_isWall : MKV mX0_isWall 1 := ⟨(lk_r13 _ (List.mem_of_getElem? (i := 0) rfl)), (lk_r1 _ (List.mem_of_getElem? (i := 14) rfl)), (lk_r12 _ (List.mem_of_getElem? (i := 22) rfl)), (lk_r12 _ (List.mem_of_getElem? (i := 23) rfl)), by decide +kernel, by decide, rfl⟩
abbrev mX0_isRight : MD := (yX0_isRight, cX0_isRight, 2, (some .boolean), RX0)
theorem kmX0_isRight : MKV mX0_isRight 0 := ⟨(lk_r13 _ (List.mem_of_getElem? (i := 4) rfl)), (lk_r1 _ (List.mem_of_getElem? (i := 14) rfl)), (lk_r13 _ (List.mem_of_getElem? (i := 2) rfl)), (lk_r13 _ (List.mem_of_getElem? (i := 3) rfl)), by decide +kernel, by decide, rfl⟩
abbrev mX0_euler : MD := (yX0_euler, cX0_euler, 1, (some .int), RX0)
theorem kmX0_euler : MKV mX0_euler 0 := ⟨(lk_r13 _ (List.mem_of_getElem? (i := 8) rfl)), (lk_r1 _ (List.mem_of_getElem? (i := 14) rfl)), (lk_r13 _ (List.mem_of_getElem? (i := 6) rfl)), (lk_r13 _ (List.mem_of_getElem? (i := 7) rfl)), by decide +kernel, by decide, rfl⟩
abbrev mX0_facesOf : MD := (yX0_facesOf, cX0_facesOf, 4, (some .int), RX0)
theorem kmX0_facesOf : MKV mX0_facesOf 1 := ⟨(lk_r13 _ (List.mem_of_getElem? (i := 12) rfl)), (lk_r1 _ (List.mem_of_getElem? (i := 14) rfl)), (lk_r13 _ (List.mem_of_getElem? (i := 10) rfl)), (lk_r13 _ (List.mem_of_getElem? (i := 11) rfl)), by decide +kernel, by decide, rfl⟩
abbrev mX7_parts : MD := (yX7_parts, cX7_parts, 4, (some .int), RX7)
theorem kmX7_parts : MKV mX7_parts 1 := ⟨(lk_r13 _ (List.mem_of_getElem? (i := 16) rfl)), (lk_r2 _ (List.mem_of_getElem? (i := 6) rfl)), (lk_r13 _ (List.mem_of_getElem? (i := 14) rfl)), (lk_r13 _ (List.mem_of_getElem? (i := 15) rfl)), by decide +kernel, by decide, rfl⟩
abbrev mX7_load : MD := (yX7_load, cX7_load, 3, none, RX7)
theorem kmX7_load : MKV mX7_load 1 := ⟨(lk_r13 _ (List.mem_of_getElem? (i := 21) rfl)), (lk_r2 _ (List.mem_of_getElem? (i := 6) rfl)), (lk_r13 _ (List.mem_of_getElem? (i := 19) rfl)), (lk_r13 _ (List.mem_of_getElem? (i := 20) rfl)), by decide +kernel, by decide, rfl⟩
abbrev mX0_isBody : MD := (yX0_isBody, cX0_isBody, 2, (some .boolean), RX0)
theorem kmX0_isBody : MKV mX0_isBody 1 := ⟨(lk_r14 _ (List.mem_of_getElem? (i := 2) rfl)), (lk_r1 _ (List.mem_of_getElem? (i := 14) rfl)), (lk_r14 _ (List.mem_of_getElem? (i := 0) rfl)), (lk_r14 _ (List.mem_of_getElem? (i := 1) rfl)), by decide +kernel, by decide, rfl⟩
abbrev mX7_spread : MD := (yX7_spread, cX7_spread, 6, none, RX7)
theorem kmX7_spread : MKV mX7_spread 1 := ⟨(lk_r14 _ (List.mem_of_getElem? (i := 6) rfl)), (lk_r2 _ (List.mem_of_getElem? (i := 6) rfl)), (lk_r14 _ (List.mem_of_getElem? (i := 4) rfl)), (lk_r14 _ (List.mem_of_getElem? (i := 5) rfl)), by decide +kernel, by decide, rfl⟩
abbrev mX7_beside : MD := (yX7_beside, cX7_beside, 3, (some .boolean), RX7)
theorem kmX7_beside : MKV mX7_beside 2 := ⟨(lk_r14 _ (List.mem_of_getElem? (i := 10) rfl)), (lk_r2 _ (List.mem_of_getElem? (i := 6) rfl)), (lk_r14 _ (List.mem_of_getElem? (i := 8) rfl)), (lk_r14 _ (List.mem_of_getElem? (i := 9) rfl)), by decide +kernel, by decide, rfl⟩
abbrev mX7_sameSign : MD := (yX7_sameSign, cX7_sameSign, 6, (some .boolean), RX7)
theorem kmX7_sameSign : MKV mX7_sameSign 2 := ⟨(lk_r14 _ (List.mem_of_getElem? (i := 15) rfl)), (lk_r2 _ (List.mem_of_getElem? (i := 6) rfl)), (lk_r14 _ (List.mem_of_getElem? (i := 13) rfl)), (lk_r14 _ (List.mem_of_getElem? (i := 14) rfl)), by decide +kernel, by decide, rfl⟩
abbrev mX7_twoSided : MD := (yX7_twoSided, cX7_twoSided, 4, (some .boolean), RX7)
theorem kmX7_twoSided : MKV mX7_twoSided 1 := ⟨(lk_r14 _ (List.mem_of_getElem? (i := 19) rfl)), (lk_r2 _ (List.mem_of_getElem? (i := 6) rfl)), (lk_r14 _ (List.mem_of_getElem? (i := 17) rfl)), (lk_r14 _ (List.mem_of_getElem? (i := 18) rfl)), by decide +kernel, by decide, rfl⟩
abbrev mX9_heap : MD := (yX9_heap, cX9_heap, 2, (some .int), RX9)
theorem kmX9_heap : MKV mX9_heap 1 := ⟨(lk_r15 _ (List.mem_of_getElem? (i := 0) rfl)), (lk_r1 _ (List.mem_of_getElem? (i := 5) rfl)), (lk_r14 _ (List.mem_of_getElem? (i := 22) rfl)), (lk_r14 _ (List.mem_of_getElem? (i := 23) rfl)), by decide +kernel, by decide, rfl⟩
abbrev mX9_layFaces : MD := (yX9_layFaces, cX9_layFaces, 4, none, RX9)
theorem kmX9_layFaces : MKV mX9_layFaces 1 := ⟨(lk_r15 _ (List.mem_of_getElem? (i := 5) rfl)), (lk_r1 _ (List.mem_of_getElem? (i := 5) rfl)), (lk_r15 _ (List.mem_of_getElem? (i := 3) rfl)), (lk_r15 _ (List.mem_of_getElem? (i := 4) rfl)), by decide +kernel, by decide, rfl⟩
abbrev mX9_walls : MD := (yX9_walls, cX9_walls, 4, (some .int), RX9)
theorem kmX9_walls : MKV mX9_walls 1 := ⟨(lk_r15 _ (List.mem_of_getElem? (i := 9) rfl)), (lk_r1 _ (List.mem_of_getElem? (i := 5) rfl)), (lk_r15 _ (List.mem_of_getElem? (i := 7) rfl)), (lk_r15 _ (List.mem_of_getElem? (i := 8) rfl)), by decide +kernel, by decide, rfl⟩
abbrev mX9_isWall : MD := (yX9_isWall, cX9_isWall, 3, (some .boolean), RX9)
theorem kmX9_isWall : MKV mX9_isWall 2 := ⟨(lk_r15 _ (List.mem_of_getElem? (i := 13) rfl)), (lk_r1 _ (List.mem_of_getElem? (i := 5) rfl)), (lk_r15 _ (List.mem_of_getElem? (i := 11) rfl)), (lk_r15 _ (List.mem_of_getElem? (i := 12) rfl)), by decide +kernel, by decide, rfl⟩
abbrev mX9_right : MD := (yX9_right, cX9_right, 2, (some .int), RX9)
theorem kmX9_right : MKV mX9_right 0 := ⟨(lk_r15 _ (List.mem_of_getElem? (i := 17) rfl)), (lk_r1 _ (List.mem_of_getElem? (i := 5) rfl)), (lk_r15 _ (List.mem_of_getElem? (i := 15) rfl)), (lk_r15 _ (List.mem_of_getElem? (i := 16) rfl)), by decide +kernel, by decide, rfl⟩
abbrev mX9_euler : MD := (yX9_euler, cX9_euler, 1, (some .int), RX9)
theorem kmX9_euler : MKV mX9_euler 0 := ⟨(lk_r15 _ (List.mem_of_getElem? (i := 21) rfl)), (lk_r1 _ (List.mem_of_getElem? (i := 5) rfl)), (lk_r15 _ (List.mem_of_getElem? (i := 19) rfl)), (lk_r15 _ (List.mem_of_getElem? (i := 20) rfl)), by decide +kernel, by decide, rfl⟩
abbrev mX9_facesOf : MD := (yX9_facesOf, cX9_facesOf, 4, (some .int), RX9)
theorem kmX9_facesOf : MKV mX9_facesOf 1 := ⟨(lk_r16 _ (List.mem_of_getElem? (i := 1) rfl)), (lk_r1 _ (List.mem_of_getElem? (i := 5) rfl)), (lk_r15 _ (List.mem_of_getElem? (i := 23) rfl)), (lk_r16 _ (List.mem_of_getElem? (i := 0) rfl)), by decide +kernel, by decide, rfl⟩
abbrev mX9_parts : MD := (yX9_parts, cX9_parts, 3, (some .int), RX9)
theorem kmX9_parts : MKV mX9_parts 0 := ⟨(lk_r16 _ (List.mem_of_getElem? (i := 5) rfl)), (lk_r1 _ (List.mem_of_getElem? (i := 5) rfl)), (lk_r16 _ (List.mem_of_getElem? (i := 3) rfl)), (lk_r16 _ (List.mem_of_getElem? (i := 4) rfl)), by decide +kernel, by decide, rfl⟩
abbrev mX9_spreads : MD := (yX9_spreads, cX9_spreads, 5, none, RX9)
theorem kmX9_spreads : MKV mX9_spreads 1 := ⟨(lk_r16 _ (List.mem_of_getElem? (i := 9) rfl)), (lk_r1 _ (List.mem_of_getElem? (i := 5) rfl)), (lk_r16 _ (List.mem_of_getElem? (i := 7) rfl)), (lk_r16 _ (List.mem_of_getElem? (i := 8) rfl)), by decide +kernel, by decide, rfl⟩
abbrev mX9_areBeside : MD := (yX9_areBeside, cX9_areBeside, 3, (some .boolean), RX9)
theorem kmX9_areBeside : MKV mX9_areBeside 2 := ⟨(lk_r16 _ (List.mem_of_getElem? (i := 13) rfl)), (lk_r1 _ (List.mem_of_getElem? (i := 5) rfl)), (lk_r16 _ (List.mem_of_getElem? (i := 11) rfl)), (lk_r16 _ (List.mem_of_getElem? (i := 12) rfl)), by decide +kernel, by decide, rfl⟩
abbrev mX9_isTwoSided : MD := (yX9_isTwoSided, cX9_isTwoSided, 2, (some .boolean), RX9)
theorem kmX9_isTwoSided : MKV mX9_isTwoSided 0 := ⟨(lk_r16 _ (List.mem_of_getElem? (i := 17) rfl)), (lk_r1 _ (List.mem_of_getElem? (i := 5) rfl)), (lk_r16 _ (List.mem_of_getElem? (i := 15) rfl)), (lk_r16 _ (List.mem_of_getElem? (i := 16) rfl)), by decide +kernel, by decide, rfl⟩
abbrev mX9_areAgreed : MD := (yX9_areAgreed, cX9_areAgreed, 6, (some .boolean), RX9)
theorem kmX9_areAgreed : MKV mX9_areAgreed 1 := ⟨(lk_r16 _ (List.mem_of_getElem? (i := 21) rfl)), (lk_r1 _ (List.mem_of_getElem? (i := 5) rfl)), (lk_r16 _ (List.mem_of_getElem? (i := 19) rfl)), (lk_r16 _ (List.mem_of_getElem? (i := 20) rfl)), by decide +kernel, by decide, rfl⟩
abbrev mX9_areSigned : MD := (yX9_areSigned, cX9_areSigned, 3, (some .boolean), RX9)
theorem kmX9_areSigned : MKV mX9_areSigned 2 := ⟨(lk_r17 _ (List.mem_of_getElem? (i := 1) rfl)), (lk_r1 _ (List.mem_of_getElem? (i := 5) rfl)), (lk_r16 _ (List.mem_of_getElem? (i := 23) rfl)), (lk_r17 _ (List.mem_of_getElem? (i := 0) rfl)), by decide +kernel, by decide, rfl⟩
abbrev mX9_below : MD := (yX9_below, cX9_below, 4, (some .int), RX9)
theorem kmX9_below : MKV mX9_below 2 := ⟨(lk_r17 _ (List.mem_of_getElem? (i := 5) rfl)), (lk_r1 _ (List.mem_of_getElem? (i := 5) rfl)), (lk_r17 _ (List.mem_of_getElem? (i := 3) rfl)), (lk_r17 _ (List.mem_of_getElem? (i := 4) rfl)), by decide +kernel, by decide, rfl⟩
abbrev mX8_faces : MD := (yX8_faces, cX8_faces, 2, (some .int), RX8)
theorem kmX8_faces : MKV mX8_faces 1 := ⟨(lk_r17 _ (List.mem_of_getElem? (i := 9) rfl)), (lk_r1 _ (List.mem_of_getElem? (i := 2) rfl)), (lk_r17 _ (List.mem_of_getElem? (i := 7) rfl)), (lk_r17 _ (List.mem_of_getElem? (i := 8) rfl)), by decide +kernel, by decide, rfl⟩
abbrev mX9_faces : MD := (yX9_faces, cX9_faces, 2, (some .int), RX9)
theorem kmX9_faces : MKV mX9_faces 1 := ⟨(lk_r17 _ (List.mem_of_getElem? (i := 14) rfl)), (lk_r1 _ (List.mem_of_getElem? (i := 5) rfl)), (lk_r17 _ (List.mem_of_getElem? (i := 12) rfl)), (lk_r17 _ (List.mem_of_getElem? (i := 13) rfl)), by decide +kernel, by decide, rfl⟩
abbrev mX8_face : MD := (yX8_face, cX8_face, 3, (some .int), RX8)
theorem kmX8_face : MKV mX8_face 2 := ⟨(lk_r17 _ (List.mem_of_getElem? (i := 18) rfl)), (lk_r1 _ (List.mem_of_getElem? (i := 2) rfl)), (lk_r17 _ (List.mem_of_getElem? (i := 16) rfl)), (lk_r17 _ (List.mem_of_getElem? (i := 17) rfl)), by decide +kernel, by decide, rfl⟩
abbrev mX8_isSet : MD := (yX8_isSet, cX8_isSet, 1, (some .boolean), RX8)
theorem kmX8_isSet : MKS mX8_isSet 1 := ⟨(lk_r17 _ (List.mem_of_getElem? (i := 21) rfl)), (lk_r1 _ (List.mem_of_getElem? (i := 2) rfl)), (lk_r17 _ (List.mem_of_getElem? (i := 20) rfl)), by decide +kernel, by decide, rfl⟩
abbrev mX0_holders : MD := (yX0_holders, cX0_holders, 2, (some .int), RX0)
theorem kmX0_holders : MKV mX0_holders 1 := ⟨(lk_r18 _ (List.mem_of_getElem? (i := 1) rfl)), (lk_r1 _ (List.mem_of_getElem? (i := 14) rfl)), (lk_r17 _ (List.mem_of_getElem? (i := 23) rfl)), (lk_r18 _ (List.mem_of_getElem? (i := 0) rfl)), by decide +kernel, by decide, rfl⟩
abbrev mX0_linkSets : MD := (yX0_linkSets, cX0_linkSets, 4, (some .int), RX0)
theorem kmX0_linkSets : MKV mX0_linkSets 1 := ⟨(lk_r18 _ (List.mem_of_getElem? (i := 5) rfl)), (lk_r1 _ (List.mem_of_getElem? (i := 14) rfl)), (lk_r18 _ (List.mem_of_getElem? (i := 3) rfl)), (lk_r18 _ (List.mem_of_getElem? (i := 4) rfl)), by decide +kernel, by decide, rfl⟩
abbrev mX9_face : MD := (yX9_face, cX9_face, 3, (some .int), RX9)
theorem kmX9_face : MKV mX9_face 2 := ⟨(lk_r18 _ (List.mem_of_getElem? (i := 10) rfl)), (lk_r1 _ (List.mem_of_getElem? (i := 5) rfl)), (lk_r18 _ (List.mem_of_getElem? (i := 8) rfl)), (lk_r18 _ (List.mem_of_getElem? (i := 9) rfl)), by decide +kernel, by decide, rfl⟩
abbrev mX9_linkOf : MD := (yX9_linkOf, cX9_linkOf, 4, (some .int), RX9)
theorem kmX9_linkOf : MKV mX9_linkOf 1 := ⟨(lk_r18 _ (List.mem_of_getElem? (i := 14) rfl)), (lk_r1 _ (List.mem_of_getElem? (i := 5) rfl)), (lk_r18 _ (List.mem_of_getElem? (i := 12) rfl)), (lk_r18 _ (List.mem_of_getElem? (i := 13) rfl)), by decide +kernel, by decide, rfl⟩
abbrev mX9_linked : MD := (yX9_linked, cX9_linked, 4, (some .int), RX9)
theorem kmX9_linked : MKV mX9_linked 1 := ⟨(lk_r18 _ (List.mem_of_getElem? (i := 18) rfl)), (lk_r1 _ (List.mem_of_getElem? (i := 5) rfl)), (lk_r18 _ (List.mem_of_getElem? (i := 16) rfl)), (lk_r18 _ (List.mem_of_getElem? (i := 17) rfl)), by decide +kernel, by decide, rfl⟩
abbrev mX8_wall : MD := (yX8_wall, cX8_wall, 2, (some .int), RX8)
theorem kmX8_wall : MKV mX8_wall 1 := ⟨(lk_r18 _ (List.mem_of_getElem? (i := 22) rfl)), (lk_r1 _ (List.mem_of_getElem? (i := 2) rfl)), (lk_r18 _ (List.mem_of_getElem? (i := 20) rfl)), (lk_r18 _ (List.mem_of_getElem? (i := 21) rfl)), by decide +kernel, by decide, rfl⟩
abbrev mX9_wall : MD := (yX9_wall, cX9_wall, 4, (some .int), RX9)
theorem kmX9_wall : MKV mX9_wall 1 := ⟨(lk_r19 _ (List.mem_of_getElem? (i := 2) rfl)), (lk_r1 _ (List.mem_of_getElem? (i := 5) rfl)), (lk_r19 _ (List.mem_of_getElem? (i := 0) rfl)), (lk_r19 _ (List.mem_of_getElem? (i := 1) rfl)), by decide +kernel, by decide, rfl⟩
abbrev mX8_apart : MD := (yX8_apart, cX8_apart, 4, (some .int), RX8)
theorem kmX8_apart : MKV mX8_apart 2 := ⟨(lk_r19 _ (List.mem_of_getElem? (i := 6) rfl)), (lk_r1 _ (List.mem_of_getElem? (i := 2) rfl)), (lk_r19 _ (List.mem_of_getElem? (i := 4) rfl)), (lk_r19 _ (List.mem_of_getElem? (i := 5) rfl)), by decide +kernel, by decide, rfl⟩
abbrev mX7_between : MD := (yX7_between, cX7_between, 4, (some .int), RX7)
theorem kmX7_between : MKV mX7_between 3 := ⟨(lk_r19 _ (List.mem_of_getElem? (i := 10) rfl)), (lk_r2 _ (List.mem_of_getElem? (i := 6) rfl)), (lk_r19 _ (List.mem_of_getElem? (i := 8) rfl)), (lk_r19 _ (List.mem_of_getElem? (i := 9) rfl)), by decide +kernel, by decide, rfl⟩
abbrev mX9_apart : MD := (yX9_apart, cX9_apart, 6, (some .int), RX9)
theorem kmX9_apart : MKV mX9_apart 2 := ⟨(lk_r19 _ (List.mem_of_getElem? (i := 14) rfl)), (lk_r1 _ (List.mem_of_getElem? (i := 5) rfl)), (lk_r19 _ (List.mem_of_getElem? (i := 12) rfl)), (lk_r19 _ (List.mem_of_getElem? (i := 13) rfl)), by decide +kernel, by decide, rfl⟩
abbrev mX9_bodyAt : MD := (yX9_bodyAt, cX9_bodyAt, 2, (some .int), RX9)
theorem kmX9_bodyAt : MKV mX9_bodyAt 1 := ⟨(lk_r19 _ (List.mem_of_getElem? (i := 18) rfl)), (lk_r1 _ (List.mem_of_getElem? (i := 5) rfl)), (lk_r19 _ (List.mem_of_getElem? (i := 16) rfl)), (lk_r19 _ (List.mem_of_getElem? (i := 17) rfl)), by decide +kernel, by decide, rfl⟩
abbrev mX8_shelled : MD := (yX8_shelled, cX8_shelled, 4, (some .int), RX8)
theorem kmX8_shelled : MKV mX8_shelled 1 := ⟨(lk_r19 _ (List.mem_of_getElem? (i := 23) rfl)), (lk_r1 _ (List.mem_of_getElem? (i := 2) rfl)), (lk_r19 _ (List.mem_of_getElem? (i := 21) rfl)), (lk_r19 _ (List.mem_of_getElem? (i := 22) rfl)), by decide +kernel, by decide, rfl⟩
abbrev mX3_state : MD := (yX3_state, cX3_state, 2, (some .int), RX3)
theorem kmX3_state : MKV mX3_state 1 := ⟨(lk_r20 _ (List.mem_of_getElem? (i := 3) rfl)), (lk_r2 _ (List.mem_of_getElem? (i := 18) rfl)), (lk_r20 _ (List.mem_of_getElem? (i := 1) rfl)), (lk_r20 _ (List.mem_of_getElem? (i := 2) rfl)), by decide +kernel, by decide, rfl⟩
abbrev mX3_isList : MD := (yX3_isList, cX3_isList, 2, (some .boolean), RX3)
theorem kmX3_isList : MKV mX3_isList 1 := ⟨(lk_r20 _ (List.mem_of_getElem? (i := 8) rfl)), (lk_r2 _ (List.mem_of_getElem? (i := 18) rfl)), (lk_r20 _ (List.mem_of_getElem? (i := 6) rfl)), (lk_r20 _ (List.mem_of_getElem? (i := 7) rfl)), by decide +kernel, by decide, rfl⟩
abbrev mX3_sizeOf : MD := (yX3_sizeOf, cX3_sizeOf, 2, (some .int), RX3)
theorem kmX3_sizeOf : MKV mX3_sizeOf 1 := ⟨(lk_r20 _ (List.mem_of_getElem? (i := 13) rfl)), (lk_r2 _ (List.mem_of_getElem? (i := 18) rfl)), (lk_r20 _ (List.mem_of_getElem? (i := 11) rfl)), (lk_r20 _ (List.mem_of_getElem? (i := 12) rfl)), by decide +kernel, by decide, rfl⟩
abbrev mX7_fits : MD := (yX7_fits, cX7_fits, 8, (some .boolean), RX7)
theorem kmX7_fits : MKV mX7_fits 3 := ⟨(lk_r20 _ (List.mem_of_getElem? (i := 17) rfl)), (lk_r2 _ (List.mem_of_getElem? (i := 6) rfl)), (lk_r20 _ (List.mem_of_getElem? (i := 15) rfl)), (lk_r20 _ (List.mem_of_getElem? (i := 16) rfl)), by decide +kernel, by decide, rfl⟩
abbrev mX3_at : MD := (yX3_at, cX3_at, 3, (some .int), RX3)
theorem kmX3_at : MKV mX3_at 2 := ⟨(lk_r20 _ (List.mem_of_getElem? (i := 21) rfl)), (lk_r2 _ (List.mem_of_getElem? (i := 18) rfl)), (lk_r20 _ (List.mem_of_getElem? (i := 19) rfl)), (lk_r20 _ (List.mem_of_getElem? (i := 20) rfl)), by decide +kernel, by decide, rfl⟩
abbrev mX7_bodyAt : MD := (yX7_bodyAt, cX7_bodyAt, 2, (some .int), RX7)
theorem kmX7_bodyAt : MKV mX7_bodyAt 1 := ⟨(lk_r21 _ (List.mem_of_getElem? (i := 1) rfl)), (lk_r2 _ (List.mem_of_getElem? (i := 6) rfl)), (lk_r20 _ (List.mem_of_getElem? (i := 23) rfl)), (lk_r21 _ (List.mem_of_getElem? (i := 0) rfl)), by decide +kernel, by decide, rfl⟩
abbrev mX9_shelled : MD := (yX9_shelled, cX9_shelled, 4, (some .int), RX9)
theorem kmX9_shelled : MKV mX9_shelled 1 := ⟨(lk_r21 _ (List.mem_of_getElem? (i := 5) rfl)), (lk_r1 _ (List.mem_of_getElem? (i := 5) rfl)), (lk_r21 _ (List.mem_of_getElem? (i := 3) rfl)), (lk_r21 _ (List.mem_of_getElem? (i := 4) rfl)), by decide +kernel, by decide, rfl⟩
abbrev mX9_isList : MD := (yX9_isList, cX9_isList, 1, (some .boolean), RX9)
theorem kmX9_isList : MKS mX9_isList 1 := ⟨(lk_r21 _ (List.mem_of_getElem? (i := 8) rfl)), (lk_r1 _ (List.mem_of_getElem? (i := 5) rfl)), (lk_r21 _ (List.mem_of_getElem? (i := 7) rfl)), by decide +kernel, by decide, rfl⟩
abbrev mX9_isAgain : MD := (yX9_isAgain, cX9_isAgain, 4, (some .boolean), RX9)
theorem kmX9_isAgain : MKV mX9_isAgain 2 := ⟨(lk_r21 _ (List.mem_of_getElem? (i := 12) rfl)), (lk_r1 _ (List.mem_of_getElem? (i := 5) rfl)), (lk_r21 _ (List.mem_of_getElem? (i := 10) rfl)), (lk_r21 _ (List.mem_of_getElem? (i := 11) rfl)), by decide +kernel, by decide, rfl⟩
abbrev mX9_isFit : MD := (yX9_isFit, cX9_isFit, 9, (some .boolean), RX9)
theorem kmX9_isFit : MKV mX9_isFit 3 := ⟨(lk_r21 _ (List.mem_of_getElem? (i := 16) rfl)), (lk_r1 _ (List.mem_of_getElem? (i := 5) rfl)), (lk_r21 _ (List.mem_of_getElem? (i := 14) rfl)), (lk_r21 _ (List.mem_of_getElem? (i := 15) rfl)), by decide +kernel, by decide, rfl⟩
abbrev mX8_flips : MD := (yX8_flips, cX8_flips, 5, (some .int), RX8)
theorem kmX8_flips : MKV mX8_flips 1 := ⟨(lk_r21 _ (List.mem_of_getElem? (i := 20) rfl)), (lk_r1 _ (List.mem_of_getElem? (i := 2) rfl)), (lk_r21 _ (List.mem_of_getElem? (i := 18) rfl)), (lk_r21 _ (List.mem_of_getElem? (i := 19) rfl)), by decide +kernel, by decide, rfl⟩
abbrev mX0_gather : MD := (yX0_gather, cX0_gather, 4, (some .int), RX0)
theorem kmX0_gather : MKV mX0_gather 1 := ⟨(lk_r22 _ (List.mem_of_getElem? (i := 0) rfl)), (lk_r1 _ (List.mem_of_getElem? (i := 14) rfl)), (lk_r21 _ (List.mem_of_getElem? (i := 22) rfl)), (lk_r21 _ (List.mem_of_getElem? (i := 23) rfl)), by decide +kernel, by decide, rfl⟩
abbrev mX0_partner : MD := (yX0_partner, cX0_partner, 4, (some .int), RX0)
theorem kmX0_partner : MKV mX0_partner 1 := ⟨(lk_r22 _ (List.mem_of_getElem? (i := 4) rfl)), (lk_r1 _ (List.mem_of_getElem? (i := 14) rfl)), (lk_r22 _ (List.mem_of_getElem? (i := 2) rfl)), (lk_r22 _ (List.mem_of_getElem? (i := 3) rfl)), by decide +kernel, by decide, rfl⟩
abbrev mX9_flips : MD := (yX9_flips, cX9_flips, 4, (some .int), RX9)
theorem kmX9_flips : MKV mX9_flips 1 := ⟨(lk_r22 _ (List.mem_of_getElem? (i := 9) rfl)), (lk_r1 _ (List.mem_of_getElem? (i := 5) rfl)), (lk_r22 _ (List.mem_of_getElem? (i := 7) rfl)), (lk_r22 _ (List.mem_of_getElem? (i := 8) rfl)), by decide +kernel, by decide, rfl⟩
abbrev mX9_layFlips : MD := (yX9_layFlips, cX9_layFlips, 6, none, RX9)
theorem kmX9_layFlips : MKV mX9_layFlips 2 := ⟨(lk_r22 _ (List.mem_of_getElem? (i := 13) rfl)), (lk_r1 _ (List.mem_of_getElem? (i := 5) rfl)), (lk_r22 _ (List.mem_of_getElem? (i := 11) rfl)), (lk_r22 _ (List.mem_of_getElem? (i := 12) rfl)), by decide +kernel, by decide, rfl⟩
abbrev mX9_forWhat : MD := (yX9_forWhat, cX9_forWhat, 4, (some .int), RX9)
theorem kmX9_forWhat : MKV mX9_forWhat 1 := ⟨(lk_r22 _ (List.mem_of_getElem? (i := 17) rfl)), (lk_r1 _ (List.mem_of_getElem? (i := 5) rfl)), (lk_r22 _ (List.mem_of_getElem? (i := 15) rfl)), (lk_r22 _ (List.mem_of_getElem? (i := 16) rfl)), by decide +kernel, by decide, rfl⟩
abbrev mX8_flipOf : MD := (yX8_flipOf, cX8_flipOf, 4, (some .int), RX8)
theorem kmX8_flipOf : MKV mX8_flipOf 2 := ⟨(lk_r22 _ (List.mem_of_getElem? (i := 21) rfl)), (lk_r1 _ (List.mem_of_getElem? (i := 2) rfl)), (lk_r22 _ (List.mem_of_getElem? (i := 19) rfl)), (lk_r22 _ (List.mem_of_getElem? (i := 20) rfl)), by decide +kernel, by decide, rfl⟩
abbrev mX9_flipOf : MD := (yX9_flipOf, cX9_flipOf, 3, (some .int), RX9)
theorem kmX9_flipOf : MKV mX9_flipOf 2 := ⟨(lk_r23 _ (List.mem_of_getElem? (i := 2) rfl)), (lk_r1 _ (List.mem_of_getElem? (i := 5) rfl)), (lk_r23 _ (List.mem_of_getElem? (i := 0) rfl)), (lk_r23 _ (List.mem_of_getElem? (i := 1) rfl)), by decide +kernel, by decide, rfl⟩
abbrev mX8_number : MD := (yX8_number, cX8_number, 2, (some .int), RX8)
theorem kmX8_number : MKV mX8_number 1 := ⟨(lk_r23 _ (List.mem_of_getElem? (i := 6) rfl)), (lk_r1 _ (List.mem_of_getElem? (i := 2) rfl)), (lk_r23 _ (List.mem_of_getElem? (i := 4) rfl)), (lk_r23 _ (List.mem_of_getElem? (i := 5) rfl)), by decide +kernel, by decide, rfl⟩
abbrev mX0_numberOf : MD := (yX0_numberOf, cX0_numberOf, 4, (some .int), RX0)
theorem kmX0_numberOf : MKV mX0_numberOf 1 := ⟨(lk_r23 _ (List.mem_of_getElem? (i := 10) rfl)), (lk_r1 _ (List.mem_of_getElem? (i := 14) rfl)), (lk_r23 _ (List.mem_of_getElem? (i := 8) rfl)), (lk_r23 _ (List.mem_of_getElem? (i := 9) rfl)), by decide +kernel, by decide, rfl⟩
abbrev mX9_number : MD := (yX9_number, cX9_number, 2, (some .int), RX9)
theorem kmX9_number : MKV mX9_number 1 := ⟨(lk_r23 _ (List.mem_of_getElem? (i := 14) rfl)), (lk_r1 _ (List.mem_of_getElem? (i := 5) rfl)), (lk_r23 _ (List.mem_of_getElem? (i := 12) rfl)), (lk_r23 _ (List.mem_of_getElem? (i := 13) rfl)), by decide +kernel, by decide, rfl⟩
abbrev mX9_find : MD := (yX9_find, cX9_find, 4, (some .int), RX9)
theorem kmX9_find : MKV mX9_find 2 := ⟨(lk_r23 _ (List.mem_of_getElem? (i := 18) rfl)), (lk_r1 _ (List.mem_of_getElem? (i := 5) rfl)), (lk_r23 _ (List.mem_of_getElem? (i := 16) rfl)), (lk_r23 _ (List.mem_of_getElem? (i := 17) rfl)), by decide +kernel, by decide, rfl⟩
abbrev mX8_flip : MD := (yX8_flip, cX8_flip, 3, (some .int), RX8)
theorem kmX8_flip : MKV mX8_flip 1 := ⟨(lk_r23 _ (List.mem_of_getElem? (i := 22) rfl)), (lk_r1 _ (List.mem_of_getElem? (i := 2) rfl)), (lk_r23 _ (List.mem_of_getElem? (i := 20) rfl)), (lk_r23 _ (List.mem_of_getElem? (i := 21) rfl)), by decide +kernel, by decide, rfl⟩
abbrev mX0_flipAt : MD := (yX0_flipAt, cX0_flipAt, 3, none, RX0)
theorem kmX0_flipAt : MKV mX0_flipAt 1 := ⟨(lk_r24 _ (List.mem_of_getElem? (i := 2) rfl)), (lk_r1 _ (List.mem_of_getElem? (i := 14) rfl)), (lk_r24 _ (List.mem_of_getElem? (i := 0) rfl)), (lk_r24 _ (List.mem_of_getElem? (i := 1) rfl)), by decide +kernel, by decide, rfl⟩
abbrev mX9_flip : MD := (yX9_flip, cX9_flip, 2, (some .int), RX9)
theorem kmX9_flip : MKV mX9_flip 1 := ⟨(lk_r24 _ (List.mem_of_getElem? (i := 6) rfl)), (lk_r1 _ (List.mem_of_getElem? (i := 5) rfl)), (lk_r24 _ (List.mem_of_getElem? (i := 4) rfl)), (lk_r24 _ (List.mem_of_getElem? (i := 5) rfl)), by decide +kernel, by decide, rfl⟩
abbrev mX9_does : MD := (yX9_does, cX9_does, 5, none, RX9)
theorem kmX9_does : MKV mX9_does 3 := ⟨(lk_r24 _ (List.mem_of_getElem? (i := 10) rfl)), (lk_r1 _ (List.mem_of_getElem? (i := 5) rfl)), (lk_r24 _ (List.mem_of_getElem? (i := 8) rfl)), (lk_r24 _ (List.mem_of_getElem? (i := 9) rfl)), by decide +kernel, by decide, rfl⟩
abbrev mX8_other : MD := (yX8_other, cX8_other, 3, (some .int), RX8)
theorem kmX8_other : MKV mX8_other 1 := ⟨(lk_r24 _ (List.mem_of_getElem? (i := 14) rfl)), (lk_r1 _ (List.mem_of_getElem? (i := 2) rfl)), (lk_r24 _ (List.mem_of_getElem? (i := 12) rfl)), (lk_r24 _ (List.mem_of_getElem? (i := 13) rfl)), by decide +kernel, by decide, rfl⟩
abbrev mX9_other : MD := (yX9_other, cX9_other, 5, (some .int), RX9)
theorem kmX9_other : MKV mX9_other 1 := ⟨(lk_r24 _ (List.mem_of_getElem? (i := 19) rfl)), (lk_r1 _ (List.mem_of_getElem? (i := 5) rfl)), (lk_r24 _ (List.mem_of_getElem? (i := 17) rfl)), (lk_r24 _ (List.mem_of_getElem? (i := 18) rfl)), by decide +kernel, by decide, rfl⟩
abbrev mX8_plan : MD := (yX8_plan, cX8_plan, 7, (some .int), RX8)
theorem kmX8_plan : MKV mX8_plan 2 := ⟨(lk_r24 _ (List.mem_of_getElem? (i := 23) rfl)), (lk_r1 _ (List.mem_of_getElem? (i := 2) rfl)), (lk_r24 _ (List.mem_of_getElem? (i := 21) rfl)), (lk_r24 _ (List.mem_of_getElem? (i := 22) rfl)), by decide +kernel, by decide, rfl⟩
abbrev mX9_plan : MD := (yX9_plan, cX9_plan, 5, (some .int), RX9)
theorem kmX9_plan : MKV mX9_plan 2 := ⟨(lk_r25 _ (List.mem_of_getElem? (i := 5) rfl)), (lk_r1 _ (List.mem_of_getElem? (i := 5) rfl)), (lk_r25 _ (List.mem_of_getElem? (i := 3) rfl)), (lk_r25 _ (List.mem_of_getElem? (i := 4) rfl)), by decide +kernel, by decide, rfl⟩
abbrev mX8_cone : MD := (yX8_cone, cX8_cone, 4, (some .int), RX8)
theorem kmX8_cone : MKV mX8_cone 1 := ⟨(lk_r25 _ (List.mem_of_getElem? (i := 9) rfl)), (lk_r1 _ (List.mem_of_getElem? (i := 2) rfl)), (lk_r25 _ (List.mem_of_getElem? (i := 7) rfl)), (lk_r25 _ (List.mem_of_getElem? (i := 8) rfl)), by decide +kernel, by decide, rfl⟩
abbrev mX9_cone : MD := (yX9_cone, cX9_cone, 3, (some .int), RX9)
theorem kmX9_cone : MKV mX9_cone 1 := ⟨(lk_r25 _ (List.mem_of_getElem? (i := 14) rfl)), (lk_r1 _ (List.mem_of_getElem? (i := 5) rfl)), (lk_r25 _ (List.mem_of_getElem? (i := 12) rfl)), (lk_r25 _ (List.mem_of_getElem? (i := 13) rfl)), by decide +kernel, by decide, rfl⟩
abbrev mX8_back : MD := (yX8_back, cX8_back, 1, (some .int), RX8)
theorem kmX8_back : MKV mX8_back 0 := ⟨(lk_r25 _ (List.mem_of_getElem? (i := 18) rfl)), (lk_r1 _ (List.mem_of_getElem? (i := 2) rfl)), (lk_r25 _ (List.mem_of_getElem? (i := 16) rfl)), (lk_r25 _ (List.mem_of_getElem? (i := 17) rfl)), by decide +kernel, by decide, rfl⟩
abbrev mX2_restore : MD := (yX2_restore, cX2_restore, 2, none, RX2)
theorem kmX2_restore : MKV mX2_restore 1 := ⟨(lk_r25 _ (List.mem_of_getElem? (i := 22) rfl)), (lk_r1 _ (List.mem_of_getElem? (i := 21) rfl)), (lk_r25 _ (List.mem_of_getElem? (i := 20) rfl)), (lk_r25 _ (List.mem_of_getElem? (i := 21) rfl)), by decide +kernel, by decide, rfl⟩
abbrev mX9_back : MD := (yX9_back, cX9_back, 1, (some .int), RX9)
theorem kmX9_back : MKV mX9_back 0 := ⟨(lk_r26 _ (List.mem_of_getElem? (i := 2) rfl)), (lk_r1 _ (List.mem_of_getElem? (i := 5) rfl)), (lk_r26 _ (List.mem_of_getElem? (i := 0) rfl)), (lk_r26 _ (List.mem_of_getElem? (i := 1) rfl)), by decide +kernel, by decide, rfl⟩
abbrev mX8_keep : MD := (yX8_keep, cX8_keep, 1, (some .int), RX8)
theorem kmX8_keep : MKV mX8_keep 0 := ⟨(lk_r26 _ (List.mem_of_getElem? (i := 6) rfl)), (lk_r1 _ (List.mem_of_getElem? (i := 2) rfl)), (lk_r26 _ (List.mem_of_getElem? (i := 4) rfl)), (lk_r26 _ (List.mem_of_getElem? (i := 5) rfl)), by decide +kernel, by decide, rfl⟩
abbrev mX5_add : MD := (yX5_add, cX5_add, 2, (some .boolean), RX5)
theorem kmX5_add : MKV mX5_add 1 := ⟨(lk_r26 _ (List.mem_of_getElem? (i := 10) rfl)), (lk_r2 _ (List.mem_of_getElem? (i := 1) rfl)), (lk_r26 _ (List.mem_of_getElem? (i := 8) rfl)), (lk_r26 _ (List.mem_of_getElem? (i := 9) rfl)), by decide +kernel, by decide, rfl⟩
abbrev mX9_keep : MD := (yX9_keep, cX9_keep, 1, (some .int), RX9)
theorem kmX9_keep : MKV mX9_keep 0 := ⟨(lk_r26 _ (List.mem_of_getElem? (i := 16) rfl)), (lk_r1 _ (List.mem_of_getElem? (i := 5) rfl)), (lk_r26 _ (List.mem_of_getElem? (i := 14) rfl)), (lk_r26 _ (List.mem_of_getElem? (i := 15) rfl)), by decide +kernel, by decide, rfl⟩
abbrev mX8_take : MD := (yX8_take, cX8_take, 3, (some .int), RX8)
theorem kmX8_take : MKV mX8_take 1 := ⟨(lk_r26 _ (List.mem_of_getElem? (i := 21) rfl)), (lk_r1 _ (List.mem_of_getElem? (i := 2) rfl)), (lk_r26 _ (List.mem_of_getElem? (i := 19) rfl)), (lk_r26 _ (List.mem_of_getElem? (i := 20) rfl)), by decide +kernel, by decide, rfl⟩
abbrev mX5_at : MD := (yX5_at, cX5_at, 2, (some (.object "FaceFlips$Heap")), RX5)
theorem kmX5_at : MKV mX5_at 1 := ⟨(lk_r27 _ (List.mem_of_getElem? (i := 1) rfl)), (lk_r2 _ (List.mem_of_getElem? (i := 1) rfl)), (lk_r26 _ (List.mem_of_getElem? (i := 23) rfl)), (lk_r27 _ (List.mem_of_getElem? (i := 0) rfl)), by decide +kernel, by decide, rfl⟩
abbrev mX9_take : MD := (yX9_take, cX9_take, 2, (some .int), RX9)
theorem kmX9_take : MKV mX9_take 1 := ⟨(lk_r27 _ (List.mem_of_getElem? (i := 5) rfl)), (lk_r1 _ (List.mem_of_getElem? (i := 5) rfl)), (lk_r27 _ (List.mem_of_getElem? (i := 3) rfl)), (lk_r27 _ (List.mem_of_getElem? (i := 4) rfl)), by decide +kernel, by decide, rfl⟩
abbrev mX9_isKept : MD := (yX9_isKept, cX9_isKept, 2, (some .boolean), RX9)
theorem kmX9_isKept : MKV mX9_isKept 1 := ⟨(lk_r27 _ (List.mem_of_getElem? (i := 9) rfl)), (lk_r1 _ (List.mem_of_getElem? (i := 5) rfl)), (lk_r27 _ (List.mem_of_getElem? (i := 7) rfl)), (lk_r27 _ (List.mem_of_getElem? (i := 8) rfl)), by decide +kernel, by decide, rfl⟩
abbrev mX8_kept : MD := (yX8_kept, cX8_kept, 4, (some .int), RX8)
theorem kmX8_kept : MKV mX8_kept 2 := ⟨(lk_r27 _ (List.mem_of_getElem? (i := 13) rfl)), (lk_r1 _ (List.mem_of_getElem? (i := 2) rfl)), (lk_r27 _ (List.mem_of_getElem? (i := 11) rfl)), (lk_r27 _ (List.mem_of_getElem? (i := 12) rfl)), by decide +kernel, by decide, rfl⟩
abbrev mX9_kept : MD := (yX9_kept, cX9_kept, 3, (some .int), RX9)
theorem kmX9_kept : MKV mX9_kept 2 := ⟨(lk_r27 _ (List.mem_of_getElem? (i := 17) rfl)), (lk_r1 _ (List.mem_of_getElem? (i := 5) rfl)), (lk_r27 _ (List.mem_of_getElem? (i := 15) rfl)), (lk_r27 _ (List.mem_of_getElem? (i := 16) rfl)), by decide +kernel, by decide, rfl⟩
abbrev mX8_chain : MD := (yX8_chain, cX8_chain, 6, (some .int), RX8)
theorem kmX8_chain : MKV mX8_chain 3 := ⟨(lk_r27 _ (List.mem_of_getElem? (i := 21) rfl)), (lk_r1 _ (List.mem_of_getElem? (i := 2) rfl)), (lk_r27 _ (List.mem_of_getElem? (i := 19) rfl)), (lk_r27 _ (List.mem_of_getElem? (i := 20) rfl)), by decide +kernel, by decide, rfl⟩
abbrev mX4_fewest : MD := (yX4_fewest, cX4_fewest, 6, (some .int), RX4)
theorem kmX4_fewest : MKV mX4_fewest 3 := ⟨(lk_r28 _ (List.mem_of_getElem? (i := 1) rfl)), (lk_r2 _ (List.mem_of_getElem? (i := 10) rfl)), (lk_r27 _ (List.mem_of_getElem? (i := 23) rfl)), (lk_r28 _ (List.mem_of_getElem? (i := 0) rfl)), by decide +kernel, by decide, rfl⟩
abbrev mX4_gap : MD := (yX4_gap, cX4_gap, 3, (some .int), RX4)
theorem kmX4_gap : MKV mX4_gap 0 := ⟨(lk_r28 _ (List.mem_of_getElem? (i := 8) rfl)), (lk_r2 _ (List.mem_of_getElem? (i := 10) rfl)), (lk_r28 _ (List.mem_of_getElem? (i := 6) rfl)), (lk_r28 _ (List.mem_of_getElem? (i := 7) rfl)), by decide +kernel, by decide, rfl⟩
abbrev mX4_reach : MD := (yX4_reach, cX4_reach, 10, (some .boolean), RX4)
theorem kmX4_reach : MKS mX4_reach 4 := ⟨(lk_r28 _ (List.mem_of_getElem? (i := 12) rfl)), (lk_r2 _ (List.mem_of_getElem? (i := 10) rfl)), (lk_r28 _ (List.mem_of_getElem? (i := 11) rfl)), by decide +kernel, by decide, rfl⟩
abbrev mX4_widened : MD := (yX4_widened, cX4_widened, 5, (some .int), RX4)
theorem kmX4_widened : MKV mX4_widened 1 := ⟨(lk_r28 _ (List.mem_of_getElem? (i := 17) rfl)), (lk_r2 _ (List.mem_of_getElem? (i := 10) rfl)), (lk_r28 _ (List.mem_of_getElem? (i := 15) rfl)), (lk_r28 _ (List.mem_of_getElem? (i := 16) rfl)), by decide +kernel, by decide, rfl⟩
abbrev mX9_chain : MD := (yX9_chain, cX9_chain, 5, (some .int), RX9)
theorem kmX9_chain : MKV mX9_chain 3 := ⟨(lk_r28 _ (List.mem_of_getElem? (i := 23) rfl)), (lk_r1 _ (List.mem_of_getElem? (i := 5) rfl)), (lk_r28 _ (List.mem_of_getElem? (i := 21) rfl)), (lk_r28 _ (List.mem_of_getElem? (i := 22) rfl)), by decide +kernel, by decide, rfl⟩
abbrev mX9_leads : MD := (yX9_leads, cX9_leads, 6, (some .boolean), RX9)
theorem kmX9_leads : MKV mX9_leads 4 := ⟨(lk_r29 _ (List.mem_of_getElem? (i := 3) rfl)), (lk_r1 _ (List.mem_of_getElem? (i := 5) rfl)), (lk_r29 _ (List.mem_of_getElem? (i := 1) rfl)), (lk_r29 _ (List.mem_of_getElem? (i := 2) rfl)), by decide +kernel, by decide, rfl⟩
abbrev mX9_areSame : MD := (yX9_areSame, cX9_areSame, 3, (some .boolean), RX9)
theorem kmX9_areSame : MKS mX9_areSame 2 := ⟨(lk_r29 _ (List.mem_of_getElem? (i := 6) rfl)), (lk_r1 _ (List.mem_of_getElem? (i := 5) rfl)), (lk_r29 _ (List.mem_of_getElem? (i := 5) rfl)), by decide +kernel, by decide, rfl⟩
abbrev mX8_alike : MD := (yX8_alike, cX8_alike, 5, (some .int), RX8)
theorem kmX8_alike : MKV mX8_alike 2 := ⟨(lk_r29 _ (List.mem_of_getElem? (i := 10) rfl)), (lk_r1 _ (List.mem_of_getElem? (i := 2) rfl)), (lk_r29 _ (List.mem_of_getElem? (i := 8) rfl)), (lk_r29 _ (List.mem_of_getElem? (i := 9) rfl)), by decide +kernel, by decide, rfl⟩
abbrev mX1_fit : MD := (yX1_fit, cX1_fit, 3, (some .boolean), RX1)
theorem kmX1_fit : MKV mX1_fit 2 := ⟨(lk_r29 _ (List.mem_of_getElem? (i := 14) rfl)), (lk_r2 _ (List.mem_of_getElem? (i := 14) rfl)), (lk_r29 _ (List.mem_of_getElem? (i := 12) rfl)), (lk_r29 _ (List.mem_of_getElem? (i := 13) rfl)), by decide +kernel, by decide, rfl⟩
abbrev mX1_name : MD := (yX1_name, cX1_name, 4, (some .boolean), RX1)
theorem kmX1_name : MKS mX1_name 2 := ⟨(lk_r29 _ (List.mem_of_getElem? (i := 20) rfl)), (lk_r2 _ (List.mem_of_getElem? (i := 14) rfl)), (lk_r29 _ (List.mem_of_getElem? (i := 19) rfl)), by decide +kernel, by decide, rfl⟩
abbrev mX1_agrees : MD := (yX1_agrees, cX1_agrees, 6, (some .boolean), RX1)
theorem kmX1_agrees : MKV mX1_agrees 2 := ⟨(lk_r30 _ (List.mem_of_getElem? (i := 0) rfl)), (lk_r2 _ (List.mem_of_getElem? (i := 14) rfl)), (lk_r29 _ (List.mem_of_getElem? (i := 22) rfl)), (lk_r29 _ (List.mem_of_getElem? (i := 23) rfl)), by decide +kernel, by decide, rfl⟩
abbrev mX9_alike : MD := (yX9_alike, cX9_alike, 3, (some .int), RX9)
theorem kmX9_alike : MKV mX9_alike 2 := ⟨(lk_r30 _ (List.mem_of_getElem? (i := 4) rfl)), (lk_r1 _ (List.mem_of_getElem? (i := 5) rfl)), (lk_r30 _ (List.mem_of_getElem? (i := 2) rfl)), (lk_r30 _ (List.mem_of_getElem? (i := 3) rfl)), by decide +kernel, by decide, rfl⟩
abbrev mX9_canName : MD := (yX9_canName, cX9_canName, 7, (some .boolean), RX9)
theorem kmX9_canName : MKV mX9_canName 4 := ⟨(lk_r30 _ (List.mem_of_getElem? (i := 8) rfl)), (lk_r1 _ (List.mem_of_getElem? (i := 5) rfl)), (lk_r30 _ (List.mem_of_getElem? (i := 6) rfl)), (lk_r30 _ (List.mem_of_getElem? (i := 7) rfl)), by decide +kernel, by decide, rfl⟩
abbrev mX9_areNamed : MD := (yX9_areNamed, cX9_areNamed, 2, (some .boolean), RX9)
theorem kmX9_areNamed : MKS mX9_areNamed 2 := ⟨(lk_r30 _ (List.mem_of_getElem? (i := 11) rfl)), (lk_r1 _ (List.mem_of_getElem? (i := 5) rfl)), (lk_r30 _ (List.mem_of_getElem? (i := 10) rfl)), by decide +kernel, by decide, rfl⟩
abbrev mX9_named : MD := (yX9_named, cX9_named, 4, (some .int), RX9)
theorem kmX9_named : MKV mX9_named 1 := ⟨(lk_r30 _ (List.mem_of_getElem? (i := 15) rfl)), (lk_r1 _ (List.mem_of_getElem? (i := 5) rfl)), (lk_r30 _ (List.mem_of_getElem? (i := 13) rfl)), (lk_r30 _ (List.mem_of_getElem? (i := 14) rfl)), by decide +kernel, by decide, rfl⟩
abbrev mX8_common : MD := (yX8_common, cX8_common, 7, (some .int), RX8)
theorem kmX8_common : MKV mX8_common 2 := ⟨(lk_r30 _ (List.mem_of_getElem? (i := 19) rfl)), (lk_r1 _ (List.mem_of_getElem? (i := 2) rfl)), (lk_r30 _ (List.mem_of_getElem? (i := 17) rfl)), (lk_r30 _ (List.mem_of_getElem? (i := 18) rfl)), by decide +kernel, by decide, rfl⟩
abbrev mX9_common : MD := (yX9_common, cX9_common, 5, (some .int), RX9)
theorem kmX9_common : MKV mX9_common 2 := ⟨(lk_r31 _ (List.mem_of_getElem? (i := 0) rfl)), (lk_r1 _ (List.mem_of_getElem? (i := 5) rfl)), (lk_r30 _ (List.mem_of_getElem? (i := 22) rfl)), (lk_r30 _ (List.mem_of_getElem? (i := 23) rfl)), by decide +kernel, by decide, rfl⟩
abbrev mX8_fewer : MD := (yX8_fewer, cX8_fewer, 5, (some .int), RX8)
theorem kmX8_fewer : MKV mX8_fewer 1 := ⟨(lk_r31 _ (List.mem_of_getElem? (i := 4) rfl)), (lk_r1 _ (List.mem_of_getElem? (i := 2) rfl)), (lk_r31 _ (List.mem_of_getElem? (i := 2) rfl)), (lk_r31 _ (List.mem_of_getElem? (i := 3) rfl)), by decide +kernel, by decide, rfl⟩
abbrev mX0_firstFewer : MD := (yX0_firstFewer, cX0_firstFewer, 2, (some .int), RX0)
theorem kmX0_firstFewer : MKV mX0_firstFewer 0 := ⟨(lk_r31 _ (List.mem_of_getElem? (i := 8) rfl)), (lk_r1 _ (List.mem_of_getElem? (i := 14) rfl)), (lk_r31 _ (List.mem_of_getElem? (i := 6) rfl)), (lk_r31 _ (List.mem_of_getElem? (i := 7) rfl)), by decide +kernel, by decide, rfl⟩
abbrev mX9_fewer : MD := (yX9_fewer, cX9_fewer, 4, (some .int), RX9)
theorem kmX9_fewer : MKV mX9_fewer 1 := ⟨(lk_r31 _ (List.mem_of_getElem? (i := 12) rfl)), (lk_r1 _ (List.mem_of_getElem? (i := 5) rfl)), (lk_r31 _ (List.mem_of_getElem? (i := 10) rfl)), (lk_r31 _ (List.mem_of_getElem? (i := 11) rfl)), by decide +kernel, by decide, rfl⟩
abbrev mX9_firstFewer : MD := (yX9_firstFewer, cX9_firstFewer, 2, (some .int), RX9)
theorem kmX9_firstFewer : MKV mX9_firstFewer 0 := ⟨(lk_r31 _ (List.mem_of_getElem? (i := 16) rfl)), (lk_r1 _ (List.mem_of_getElem? (i := 5) rfl)), (lk_r31 _ (List.mem_of_getElem? (i := 14) rfl)), (lk_r31 _ (List.mem_of_getElem? (i := 15) rfl)), by decide +kernel, by decide, rfl⟩
abbrev mX8_walk : MD := (yX8_walk, cX8_walk, 8, (some .int), RX8)
theorem kmX8_walk : MKV mX8_walk 3 := ⟨(lk_r31 _ (List.mem_of_getElem? (i := 20) rfl)), (lk_r1 _ (List.mem_of_getElem? (i := 2) rfl)), (lk_r31 _ (List.mem_of_getElem? (i := 18) rfl)), (lk_r31 _ (List.mem_of_getElem? (i := 19) rfl)), by decide +kernel, by decide, rfl⟩
abbrev mX9_walk : MD := (yX9_walk, cX9_walk, 7, (some .int), RX9)
theorem kmX9_walk : MKV mX9_walk 3 := ⟨(lk_r32 _ (List.mem_of_getElem? (i := 3) rfl)), (lk_r1 _ (List.mem_of_getElem? (i := 5) rfl)), (lk_r32 _ (List.mem_of_getElem? (i := 1) rfl)), (lk_r32 _ (List.mem_of_getElem? (i := 2) rfl)), by decide +kernel, by decide, rfl⟩
abbrev mX8_feed : MD := (yX8_feed, cX8_feed, 2, (some .int), RX8)
theorem kmX8_feed : MKV mX8_feed 1 := ⟨(lk_r32 _ (List.mem_of_getElem? (i := 9) rfl)), (lk_r1 _ (List.mem_of_getElem? (i := 2) rfl)), (lk_r32 _ (List.mem_of_getElem? (i := 7) rfl)), (lk_r32 _ (List.mem_of_getElem? (i := 8) rfl)), by decide +kernel, by decide, rfl⟩
abbrev mX6_add : MD := (yX6_add, cX6_add, 2, (some .boolean), RX6)
theorem kmX6_add : MKV mX6_add 1 := ⟨(lk_r32 _ (List.mem_of_getElem? (i := 13) rfl)), (lk_r2 _ (List.mem_of_getElem? (i := 22) rfl)), (lk_r32 _ (List.mem_of_getElem? (i := 11) rfl)), (lk_r32 _ (List.mem_of_getElem? (i := 12) rfl)), by decide +kernel, by decide, rfl⟩
abbrev mX9_feed : MD := (yX9_feed, cX9_feed, 2, (some .int), RX9)
theorem kmX9_feed : MKV mX9_feed 1 := ⟨(lk_r32 _ (List.mem_of_getElem? (i := 18) rfl)), (lk_r1 _ (List.mem_of_getElem? (i := 5) rfl)), (lk_r32 _ (List.mem_of_getElem? (i := 16) rfl)), (lk_r32 _ (List.mem_of_getElem? (i := 17) rfl)), by decide +kernel, by decide, rfl⟩
abbrev mX8_read : MD := (yX8_read, cX8_read, 4, (some .int), RX8)
theorem kmX8_read : MKV mX8_read 0 := ⟨(lk_r32 _ (List.mem_of_getElem? (i := 23) rfl)), (lk_r1 _ (List.mem_of_getElem? (i := 2) rfl)), (lk_r32 _ (List.mem_of_getElem? (i := 21) rfl)), (lk_r32 _ (List.mem_of_getElem? (i := 22) rfl)), by decide +kernel, by decide, rfl⟩
abbrev mX6_split : MD := (yX6_split, cX6_split, 6, (some .int), RX6)
theorem kmX6_split : MKV mX6_split 0 := ⟨(lk_r33 _ (List.mem_of_getElem? (i := 3) rfl)), (lk_r2 _ (List.mem_of_getElem? (i := 22) rfl)), (lk_r33 _ (List.mem_of_getElem? (i := 1) rfl)), (lk_r33 _ (List.mem_of_getElem? (i := 2) rfl)), by decide +kernel, by decide, rfl⟩
abbrev mX6_behind : MD := (yX6_behind, cX6_behind, 5, (some .int), RX6)
theorem kmX6_behind : MKV mX6_behind 3 := ⟨(lk_r33 _ (List.mem_of_getElem? (i := 8) rfl)), (lk_r2 _ (List.mem_of_getElem? (i := 22) rfl)), (lk_r33 _ (List.mem_of_getElem? (i := 6) rfl)), (lk_r33 _ (List.mem_of_getElem? (i := 7) rfl)), by decide +kernel, by decide, rfl⟩
abbrev mX6_wordAt : MD := (yX6_wordAt, cX6_wordAt, 4, (some .int), RX6)
theorem kmX6_wordAt : MKV mX6_wordAt 2 := ⟨(lk_r33 _ (List.mem_of_getElem? (i := 12) rfl)), (lk_r2 _ (List.mem_of_getElem? (i := 22) rfl)), (lk_r33 _ (List.mem_of_getElem? (i := 10) rfl)), (lk_r33 _ (List.mem_of_getElem? (i := 11) rfl)), by decide +kernel, by decide, rfl⟩
abbrev mX6_wordOf : MD := (yX6_wordOf, cX6_wordOf, 1, (some (.object "java/lang/String")), RX6)
theorem kmX6_wordOf : MKS mX6_wordOf 1 := ⟨(lk_r33 _ (List.mem_of_getElem? (i := 15) rfl)), (lk_r2 _ (List.mem_of_getElem? (i := 22) rfl)), (lk_r33 _ (List.mem_of_getElem? (i := 14) rfl)), by decide +kernel, by decide, rfl⟩
abbrev mX6_stands : MD := (yX6_stands, cX6_stands, 5, (some .boolean), RX6)
theorem kmX6_stands : MKV mX6_stands 3 := ⟨(lk_r33 _ (List.mem_of_getElem? (i := 19) rfl)), (lk_r2 _ (List.mem_of_getElem? (i := 22) rfl)), (lk_r33 _ (List.mem_of_getElem? (i := 17) rfl)), (lk_r33 _ (List.mem_of_getElem? (i := 18) rfl)), by decide +kernel, by decide, rfl⟩
abbrev mJ0_length_8abf5 : MD := (yJ0_length_8abf5, cJ0_length_8abf5, 1, (some .int), RJ0)
theorem kmJ0_length_8abf5 : MKV mJ0_length_8abf5 0 := ⟨(lk_r34 _ (List.mem_of_getElem? (i := 0) rfl)), (lk_r33 _ (List.mem_of_getElem? (i := 23) rfl)), (lk_r33 _ (List.mem_of_getElem? (i := 21) rfl)), (lk_r33 _ (List.mem_of_getElem? (i := 22) rfl)), by decide +kernel, by decide, rfl⟩
abbrev mJ0_coder_7d493 : MD := (yJ0_coder_7d493, cJ0_coder_7d493, 1, (some .byte), RJ0)
theorem kmJ0_coder_7d493 : MKV mJ0_coder_7d493 0 := ⟨(lk_r34 _ (List.mem_of_getElem? (i := 5) rfl)), (lk_r33 _ (List.mem_of_getElem? (i := 23) rfl)), (lk_r34 _ (List.mem_of_getElem? (i := 3) rfl)), (lk_r34 _ (List.mem_of_getElem? (i := 4) rfl)), by decide +kernel, by decide, rfl⟩
abbrev mJ0_charAt_5068e : MD := (yJ0_charAt_5068e, cJ0_charAt_5068e, 2, (some .char), RJ0)
theorem kmJ0_charAt_5068e : MKV mJ0_charAt_5068e 1 := ⟨(lk_r34 _ (List.mem_of_getElem? (i := 11) rfl)), (lk_r33 _ (List.mem_of_getElem? (i := 23) rfl)), (lk_r34 _ (List.mem_of_getElem? (i := 9) rfl)), (lk_r34 _ (List.mem_of_getElem? (i := 10) rfl)), by decide +kernel, by decide, rfl⟩
abbrev mJ0_isLatin1_aae02 : MD := (yJ0_isLatin1_aae02, cJ0_isLatin1_aae02, 1, (some .boolean), RJ0)
theorem kmJ0_isLatin1_aae02 : MKV mJ0_isLatin1_aae02 0 := ⟨(lk_r34 _ (List.mem_of_getElem? (i := 15) rfl)), (lk_r33 _ (List.mem_of_getElem? (i := 23) rfl)), (lk_r34 _ (List.mem_of_getElem? (i := 13) rfl)), (lk_r34 _ (List.mem_of_getElem? (i := 14) rfl)), by decide +kernel, by decide, rfl⟩
abbrev mJ1_charAt_3b067 : MD := (yJ1_charAt_3b067, cJ1_charAt_3b067, 2, (some .char), RJ1)
theorem kmJ1_charAt_3b067 : MKS mJ1_charAt_3b067 2 := ⟨(lk_r34 _ (List.mem_of_getElem? (i := 19) rfl)), (lk_r34 _ (List.mem_of_getElem? (i := 18) rfl)), (lk_r34 _ (List.mem_of_getElem? (i := 17) rfl)), by decide +kernel, by decide, rfl⟩
abbrev mJ0_checkIndex_df160 : MD := (yJ0_checkIndex_df160, cJ0_checkIndex_df160, 2, none, RJ0)
theorem kmJ0_checkIndex_df160 : MKS mJ0_checkIndex_df160 2 := ⟨(lk_r34 _ (List.mem_of_getElem? (i := 22) rfl)), (lk_r33 _ (List.mem_of_getElem? (i := 23) rfl)), (lk_r34 _ (List.mem_of_getElem? (i := 21) rfl)), by decide +kernel, by decide, rfl⟩
abbrev mJ3_checkIndex_8e157 : MD := (yJ3_checkIndex_8e157, cJ3_checkIndex_8e157, 3, (some .int), RJ3)
theorem kmJ3_checkIndex_8e157 : MKS mJ3_checkIndex_8e157 3 := ⟨(lk_r35 _ (List.mem_of_getElem? (i := 3) rfl)), (lk_r35 _ (List.mem_of_getElem? (i := 2) rfl)), (lk_r35 _ (List.mem_of_getElem? (i := 1) rfl)), by decide +kernel, by decide, rfl⟩
abbrev mJ2_charAt_3b067 : MD := (yJ2_charAt_3b067, cJ2_charAt_3b067, 2, (some .char), RJ2)
theorem kmJ2_charAt_3b067 : MKS mJ2_charAt_3b067 2 := ⟨(lk_r35 _ (List.mem_of_getElem? (i := 7) rfl)), (lk_r35 _ (List.mem_of_getElem? (i := 6) rfl)), (lk_r35 _ (List.mem_of_getElem? (i := 5) rfl)), by decide +kernel, by decide, rfl⟩
abbrev mJ2_checkIndex_2214a : MD := (yJ2_checkIndex_2214a, cJ2_checkIndex_2214a, 2, none, RJ2)
theorem kmJ2_checkIndex_2214a : MKS mJ2_checkIndex_2214a 2 := ⟨(lk_r35 _ (List.mem_of_getElem? (i := 10) rfl)), (lk_r35 _ (List.mem_of_getElem? (i := 6) rfl)), (lk_r35 _ (List.mem_of_getElem? (i := 9) rfl)), by decide +kernel, by decide, rfl⟩
abbrev mJ2_length_9d52b : MD := (yJ2_length_9d52b, cJ2_length_9d52b, 1, (some .int), RJ2)
theorem kmJ2_length_9d52b : MKS mJ2_length_9d52b 1 := ⟨(lk_r35 _ (List.mem_of_getElem? (i := 13) rfl)), (lk_r35 _ (List.mem_of_getElem? (i := 6) rfl)), (lk_r35 _ (List.mem_of_getElem? (i := 12) rfl)), by decide +kernel, by decide, rfl⟩
abbrev mJ2_getChar_3b067 : MD := (yJ2_getChar_3b067, cJ2_getChar_3b067, 2, (some .char), RJ2)
theorem kmJ2_getChar_3b067 : MKS mJ2_getChar_3b067 2 := ⟨(lk_r35 _ (List.mem_of_getElem? (i := 17) rfl)), (lk_r35 _ (List.mem_of_getElem? (i := 6) rfl)), (lk_r35 _ (List.mem_of_getElem? (i := 16) rfl)), by decide +kernel, by decide, rfl⟩
abbrev mX8_obey : MD := (yX8_obey, cX8_obey, 3, (some .int), RX8)
theorem kmX8_obey : MKV mX8_obey 1 := ⟨(lk_r36 _ (List.mem_of_getElem? (i := 0) rfl)), (lk_r1 _ (List.mem_of_getElem? (i := 2) rfl)), (lk_r35 _ (List.mem_of_getElem? (i := 22) rfl)), (lk_r35 _ (List.mem_of_getElem? (i := 23) rfl)), by decide +kernel, by decide, rfl⟩
abbrev mX6_value : MD := (yX6_value, cX6_value, 4, (some .int), RX6)
theorem kmX6_value : MKV mX6_value 1 := ⟨(lk_r36 _ (List.mem_of_getElem? (i := 6) rfl)), (lk_r2 _ (List.mem_of_getElem? (i := 22) rfl)), (lk_r36 _ (List.mem_of_getElem? (i := 4) rfl)), (lk_r36 _ (List.mem_of_getElem? (i := 5) rfl)), by decide +kernel, by decide, rfl⟩
abbrev mX6_pointSet : MD := (yX6_pointSet, cX6_pointSet, 5, (some .int), RX6)
theorem kmX6_pointSet : MKV mX6_pointSet 1 := ⟨(lk_r36 _ (List.mem_of_getElem? (i := 13) rfl)), (lk_r2 _ (List.mem_of_getElem? (i := 22) rfl)), (lk_r36 _ (List.mem_of_getElem? (i := 11) rfl)), (lk_r36 _ (List.mem_of_getElem? (i := 12) rfl)), by decide +kernel, by decide, rfl⟩
abbrev mX9_read : MD := (yX9_read, cX9_read, 4, (some .int), RX9)
theorem kmX9_read : MKV mX9_read 0 := ⟨(lk_r36 _ (List.mem_of_getElem? (i := 18) rfl)), (lk_r1 _ (List.mem_of_getElem? (i := 5) rfl)), (lk_r36 _ (List.mem_of_getElem? (i := 16) rfl)), (lk_r36 _ (List.mem_of_getElem? (i := 17) rfl)), by decide +kernel, by decide, rfl⟩
abbrev mX9_takesAll : MD := (yX9_takesAll, cX9_takesAll, 1, (some .boolean), RX9)
theorem kmX9_takesAll : MKV mX9_takesAll 0 := ⟨(lk_r37 _ (List.mem_of_getElem? (i := 0) rfl)), (lk_r1 _ (List.mem_of_getElem? (i := 5) rfl)), (lk_r36 _ (List.mem_of_getElem? (i := 22) rfl)), (lk_r36 _ (List.mem_of_getElem? (i := 23) rfl)), by decide +kernel, by decide, rfl⟩
abbrev mX9_takesWord : MD := (yX9_takesWord, cX9_takesWord, 4, (some .boolean), RX9)
theorem kmX9_takesWord : MKV mX9_takesWord 0 := ⟨(lk_r37 _ (List.mem_of_getElem? (i := 4) rfl)), (lk_r1 _ (List.mem_of_getElem? (i := 5) rfl)), (lk_r37 _ (List.mem_of_getElem? (i := 2) rfl)), (lk_r37 _ (List.mem_of_getElem? (i := 3) rfl)), by decide +kernel, by decide, rfl⟩
abbrev mX9_isLetter : MD := (yX9_isLetter, cX9_isLetter, 2, (some .boolean), RX9)
theorem kmX9_isLetter : MKV mX9_isLetter 1 := ⟨(lk_r37 _ (List.mem_of_getElem? (i := 8) rfl)), (lk_r1 _ (List.mem_of_getElem? (i := 5) rfl)), (lk_r37 _ (List.mem_of_getElem? (i := 6) rfl)), (lk_r37 _ (List.mem_of_getElem? (i := 7) rfl)), by decide +kernel, by decide, rfl⟩
abbrev mX9_wordOf : MD := (yX9_wordOf, cX9_wordOf, 1, (some (.object "java/lang/String")), RX9)
theorem kmX9_wordOf : MKS mX9_wordOf 1 := ⟨(lk_r37 _ (List.mem_of_getElem? (i := 11) rfl)), (lk_r1 _ (List.mem_of_getElem? (i := 5) rfl)), (lk_r37 _ (List.mem_of_getElem? (i := 10) rfl)), by decide +kernel, by decide, rfl⟩
abbrev mX9_isWord : MD := (yX9_isWord, cX9_isWord, 5, (some .boolean), RX9)
theorem kmX9_isWord : MKV mX9_isWord 2 := ⟨(lk_r37 _ (List.mem_of_getElem? (i := 15) rfl)), (lk_r1 _ (List.mem_of_getElem? (i := 5) rfl)), (lk_r37 _ (List.mem_of_getElem? (i := 13) rfl)), (lk_r37 _ (List.mem_of_getElem? (i := 14) rfl)), by decide +kernel, by decide, rfl⟩
abbrev mX9_isDigit : MD := (yX9_isDigit, cX9_isDigit, 2, (some .boolean), RX9)
theorem kmX9_isDigit : MKV mX9_isDigit 1 := ⟨(lk_r37 _ (List.mem_of_getElem? (i := 21) rfl)), (lk_r1 _ (List.mem_of_getElem? (i := 5) rfl)), (lk_r37 _ (List.mem_of_getElem? (i := 19) rfl)), (lk_r37 _ (List.mem_of_getElem? (i := 20) rfl)), by decide +kernel, by decide, rfl⟩
abbrev mX9_areDigits : MD := (yX9_areDigits, cX9_areDigits, 2, (some .boolean), RX9)
theorem kmX9_areDigits : MKS mX9_areDigits 2 := ⟨(lk_r38 _ (List.mem_of_getElem? (i := 0) rfl)), (lk_r1 _ (List.mem_of_getElem? (i := 5) rfl)), (lk_r37 _ (List.mem_of_getElem? (i := 23) rfl)), by decide +kernel, by decide, rfl⟩
abbrev mX9_setOf : MD := (yX9_setOf, cX9_setOf, 5, (some .int), RX9)
theorem kmX9_setOf : MKV mX9_setOf 2 := ⟨(lk_r38 _ (List.mem_of_getElem? (i := 4) rfl)), (lk_r1 _ (List.mem_of_getElem? (i := 5) rfl)), (lk_r38 _ (List.mem_of_getElem? (i := 2) rfl)), (lk_r38 _ (List.mem_of_getElem? (i := 3) rfl)), by decide +kernel, by decide, rfl⟩
abbrev mX9_numberOf : MD := (yX9_numberOf, cX9_numberOf, 5, (some .int), RX9)
theorem kmX9_numberOf : MKV mX9_numberOf 2 := ⟨(lk_r38 _ (List.mem_of_getElem? (i := 8) rfl)), (lk_r1 _ (List.mem_of_getElem? (i := 5) rfl)), (lk_r38 _ (List.mem_of_getElem? (i := 6) rfl)), (lk_r38 _ (List.mem_of_getElem? (i := 7) rfl)), by decide +kernel, by decide, rfl⟩
abbrev mX9_isDone : MD := (yX9_isDone, cX9_isDone, 3, (some .boolean), RX9)
theorem kmX9_isDone : MKV mX9_isDone 1 := ⟨(lk_r38 _ (List.mem_of_getElem? (i := 12) rfl)), (lk_r1 _ (List.mem_of_getElem? (i := 5) rfl)), (lk_r38 _ (List.mem_of_getElem? (i := 10) rfl)), (lk_r38 _ (List.mem_of_getElem? (i := 11) rfl)), by decide +kernel, by decide, rfl⟩
abbrev mX8_spell : MD := (yX8_spell, cX8_spell, 2, (some .int), RX8)
theorem kmX8_spell : MKV mX8_spell 0 := ⟨(lk_r38 _ (List.mem_of_getElem? (i := 22) rfl)), (lk_r1 _ (List.mem_of_getElem? (i := 2) rfl)), (lk_r38 _ (List.mem_of_getElem? (i := 20) rfl)), (lk_r38 _ (List.mem_of_getElem? (i := 21) rfl)), by decide +kernel, by decide, rfl⟩
abbrev mX8_write : MD := (yX8_write, cX8_write, 2, none, RX8)
theorem kmX8_write : MKV mX8_write 1 := ⟨(lk_r39 _ (List.mem_of_getElem? (i := 3) rfl)), (lk_r1 _ (List.mem_of_getElem? (i := 2) rfl)), (lk_r39 _ (List.mem_of_getElem? (i := 1) rfl)), (lk_r39 _ (List.mem_of_getElem? (i := 2) rfl)), by decide +kernel, by decide, rfl⟩
abbrev mX8_writePoints : MD := (yX8_writePoints, cX8_writePoints, 3, none, RX8)
theorem kmX8_writePoints : MKV mX8_writePoints 1 := ⟨(lk_r39 _ (List.mem_of_getElem? (i := 7) rfl)), (lk_r1 _ (List.mem_of_getElem? (i := 2) rfl)), (lk_r39 _ (List.mem_of_getElem? (i := 5) rfl)), (lk_r39 _ (List.mem_of_getElem? (i := 6) rfl)), by decide +kernel, by decide, rfl⟩
abbrev mX9_spell : MD := (yX9_spell, cX9_spell, 3, (some .int), RX9)
theorem kmX9_spell : MKV mX9_spell 0 := ⟨(lk_r39 _ (List.mem_of_getElem? (i := 11) rfl)), (lk_r1 _ (List.mem_of_getElem? (i := 5) rfl)), (lk_r39 _ (List.mem_of_getElem? (i := 9) rfl)), (lk_r39 _ (List.mem_of_getElem? (i := 10) rfl)), by decide +kernel, by decide, rfl⟩
abbrev mX9_writes : MD := (yX9_writes, cX9_writes, 2, none, RX9)
theorem kmX9_writes : MKV mX9_writes 1 := ⟨(lk_r39 _ (List.mem_of_getElem? (i := 16) rfl)), (lk_r1 _ (List.mem_of_getElem? (i := 5) rfl)), (lk_r39 _ (List.mem_of_getElem? (i := 14) rfl)), (lk_r39 _ (List.mem_of_getElem? (i := 15) rfl)), by decide +kernel, by decide, rfl⟩
abbrev mX8_paper : MD := (yX8_paper, cX8_paper, 2, (some .int), RX8)
theorem kmX8_paper : MKV mX8_paper 1 := ⟨(lk_r39 _ (List.mem_of_getElem? (i := 20) rfl)), (lk_r1 _ (List.mem_of_getElem? (i := 2) rfl)), (lk_r39 _ (List.mem_of_getElem? (i := 18) rfl)), (lk_r39 _ (List.mem_of_getElem? (i := 19) rfl)), by decide +kernel, by decide, rfl⟩
abbrev mX9_paper : MD := (yX9_paper, cX9_paper, 2, (some .int), RX9)
theorem kmX9_paper : MKV mX9_paper 1 := ⟨(lk_r40 _ (List.mem_of_getElem? (i := 0) rfl)), (lk_r1 _ (List.mem_of_getElem? (i := 5) rfl)), (lk_r39 _ (List.mem_of_getElem? (i := 22) rfl)), (lk_r39 _ (List.mem_of_getElem? (i := 23) rfl)), by decide +kernel, by decide, rfl⟩
abbrev mX8_judge : MD := (yX8_judge, cX8_judge, 6, (some .int), RX8)
theorem kmX8_judge : MKV mX8_judge 1 := ⟨(lk_r40 _ (List.mem_of_getElem? (i := 4) rfl)), (lk_r1 _ (List.mem_of_getElem? (i := 2) rfl)), (lk_r40 _ (List.mem_of_getElem? (i := 2) rfl)), (lk_r40 _ (List.mem_of_getElem? (i := 3) rfl)), by decide +kernel, by decide, rfl⟩
abbrev mX9_judge : MD := (yX9_judge, cX9_judge, 4, (some .int), RX9)
theorem kmX9_judge : MKV mX9_judge 1 := ⟨(lk_r40 _ (List.mem_of_getElem? (i := 8) rfl)), (lk_r1 _ (List.mem_of_getElem? (i := 5) rfl)), (lk_r40 _ (List.mem_of_getElem? (i := 6) rfl)), (lk_r40 _ (List.mem_of_getElem? (i := 7) rfl)), by decide +kernel, by decide, rfl⟩
abbrev mX8_list : MD := (yX8_list, cX8_list, 3, (some .int), RX8)
theorem kmX8_list : MKV mX8_list 2 := ⟨(lk_r40 _ (List.mem_of_getElem? (i := 12) rfl)), (lk_r1 _ (List.mem_of_getElem? (i := 2) rfl)), (lk_r40 _ (List.mem_of_getElem? (i := 10) rfl)), (lk_r40 _ (List.mem_of_getElem? (i := 11) rfl)), by decide +kernel, by decide, rfl⟩
abbrev mX3_start : MD := (yX3_start, cX3_start, 4, none, RX3)
theorem kmX3_start : MKV mX3_start 2 := ⟨(lk_r40 _ (List.mem_of_getElem? (i := 16) rfl)), (lk_r2 _ (List.mem_of_getElem? (i := 18) rfl)), (lk_r40 _ (List.mem_of_getElem? (i := 14) rfl)), (lk_r40 _ (List.mem_of_getElem? (i := 15) rfl)), by decide +kernel, by decide, rfl⟩
abbrev mX3_set : MD := (yX3_set, cX3_set, 4, none, RX3)
theorem kmX3_set : MKV mX3_set 3 := ⟨(lk_r40 _ (List.mem_of_getElem? (i := 20) rfl)), (lk_r2 _ (List.mem_of_getElem? (i := 18) rfl)), (lk_r40 _ (List.mem_of_getElem? (i := 18) rfl)), (lk_r40 _ (List.mem_of_getElem? (i := 19) rfl)), by decide +kernel, by decide, rfl⟩
abbrev mX9_list : MD := (yX9_list, cX9_list, 4, (some .int), RX9)
theorem kmX9_list : MKV mX9_list 2 := ⟨(lk_r41 _ (List.mem_of_getElem? (i := 0) rfl)), (lk_r1 _ (List.mem_of_getElem? (i := 5) rfl)), (lk_r40 _ (List.mem_of_getElem? (i := 22) rfl)), (lk_r40 _ (List.mem_of_getElem? (i := 23) rfl)), by decide +kernel, by decide, rfl⟩
abbrev mX8_put : MD := (yX8_put, cX8_put, 5, (some .int), RX8)
theorem kmX8_put : MKV mX8_put 3 := ⟨(lk_r41 _ (List.mem_of_getElem? (i := 4) rfl)), (lk_r1 _ (List.mem_of_getElem? (i := 2) rfl)), (lk_r41 _ (List.mem_of_getElem? (i := 2) rfl)), (lk_r41 _ (List.mem_of_getElem? (i := 3) rfl)), by decide +kernel, by decide, rfl⟩
abbrev mX9_put : MD := (yX9_put, cX9_put, 4, (some .int), RX9)
theorem kmX9_put : MKV mX9_put 3 := ⟨(lk_r41 _ (List.mem_of_getElem? (i := 9) rfl)), (lk_r1 _ (List.mem_of_getElem? (i := 5) rfl)), (lk_r41 _ (List.mem_of_getElem? (i := 7) rfl)), (lk_r41 _ (List.mem_of_getElem? (i := 8) rfl)), by decide +kernel, by decide, rfl⟩
abbrev mX9_isPlace : MD := (yX9_isPlace, cX9_isPlace, 3, (some .boolean), RX9)
theorem kmX9_isPlace : MKV mX9_isPlace 2 := ⟨(lk_r41 _ (List.mem_of_getElem? (i := 13) rfl)), (lk_r1 _ (List.mem_of_getElem? (i := 5) rfl)), (lk_r41 _ (List.mem_of_getElem? (i := 11) rfl)), (lk_r41 _ (List.mem_of_getElem? (i := 12) rfl)), by decide +kernel, by decide, rfl⟩
abbrev mX8_get : MD := (yX8_get, cX8_get, 3, (some .long), RX8)
theorem kmX8_get : MKV mX8_get 2 := ⟨(lk_r41 _ (List.mem_of_getElem? (i := 17) rfl)), (lk_r1 _ (List.mem_of_getElem? (i := 2) rfl)), (lk_r41 _ (List.mem_of_getElem? (i := 15) rfl)), (lk_r41 _ (List.mem_of_getElem? (i := 16) rfl)), by decide +kernel, by decide, rfl⟩
abbrev mX9_get : MD := (yX9_get, cX9_get, 3, (some .long), RX9)
theorem kmX9_get : MKV mX9_get 2 := ⟨(lk_r41 _ (List.mem_of_getElem? (i := 22) rfl)), (lk_r1 _ (List.mem_of_getElem? (i := 5) rfl)), (lk_r41 _ (List.mem_of_getElem? (i := 20) rfl)), (lk_r41 _ (List.mem_of_getElem? (i := 21) rfl)), by decide +kernel, by decide, rfl⟩
abbrev mX8_copy : MD := (yX8_copy, cX8_copy, 6, (some .int), RX8)
theorem kmX8_copy : MKV mX8_copy 5 := ⟨(lk_r42 _ (List.mem_of_getElem? (i := 3) rfl)), (lk_r1 _ (List.mem_of_getElem? (i := 2) rfl)), (lk_r42 _ (List.mem_of_getElem? (i := 1) rfl)), (lk_r42 _ (List.mem_of_getElem? (i := 2) rfl)), by decide +kernel, by decide, rfl⟩
abbrev mX3_move : MD := (yX3_move, cX3_move, 6, none, RX3)
theorem kmX3_move : MKV mX3_move 5 := ⟨(lk_r42 _ (List.mem_of_getElem? (i := 7) rfl)), (lk_r2 _ (List.mem_of_getElem? (i := 18) rfl)), (lk_r42 _ (List.mem_of_getElem? (i := 5) rfl)), (lk_r42 _ (List.mem_of_getElem? (i := 6) rfl)), by decide +kernel, by decide, rfl⟩
abbrev mX9_copy : MD := (yX9_copy, cX9_copy, 6, (some .int), RX9)
theorem kmX9_copy : MKV mX9_copy 5 := ⟨(lk_r42 _ (List.mem_of_getElem? (i := 12) rfl)), (lk_r1 _ (List.mem_of_getElem? (i := 5) rfl)), (lk_r42 _ (List.mem_of_getElem? (i := 10) rfl)), (lk_r42 _ (List.mem_of_getElem? (i := 11) rfl)), by decide +kernel, by decide, rfl⟩
abbrev mX9_isSpan : MD := (yX9_isSpan, cX9_isSpan, 4, (some .boolean), RX9)
theorem kmX9_isSpan : MKV mX9_isSpan 3 := ⟨(lk_r42 _ (List.mem_of_getElem? (i := 16) rfl)), (lk_r1 _ (List.mem_of_getElem? (i := 5) rfl)), (lk_r42 _ (List.mem_of_getElem? (i := 14) rfl)), (lk_r42 _ (List.mem_of_getElem? (i := 15) rfl)), by decide +kernel, by decide, rfl⟩
abbrev mX8_image : MD := (yX8_image, cX8_image, 1, (some .int), RX8)
theorem kmX8_image : MKV mX8_image 0 := ⟨(lk_r42 _ (List.mem_of_getElem? (i := 20) rfl)), (lk_r1 _ (List.mem_of_getElem? (i := 2) rfl)), (lk_r42 _ (List.mem_of_getElem? (i := 18) rfl)), (lk_r42 _ (List.mem_of_getElem? (i := 19) rfl)), by decide +kernel, by decide, rfl⟩
abbrev mX9_image : MD := (yX9_image, cX9_image, 2, (some .int), RX9)
theorem kmX9_image : MKV mX9_image 0 := ⟨(lk_r43 _ (List.mem_of_getElem? (i := 2) rfl)), (lk_r1 _ (List.mem_of_getElem? (i := 5) rfl)), (lk_r43 _ (List.mem_of_getElem? (i := 0) rfl)), (lk_r43 _ (List.mem_of_getElem? (i := 1) rfl)), by decide +kernel, by decide, rfl⟩
abbrev mX8_undo : MD := (yX8_undo, cX8_undo, 1, (some .int), RX8)
theorem kmX8_undo : MKV mX8_undo 0 := ⟨(lk_r43 _ (List.mem_of_getElem? (i := 9) rfl)), (lk_r1 _ (List.mem_of_getElem? (i := 2) rfl)), (lk_r43 _ (List.mem_of_getElem? (i := 7) rfl)), (lk_r43 _ (List.mem_of_getElem? (i := 8) rfl)), by decide +kernel, by decide, rfl⟩
abbrev mX9_undo : MD := (yX9_undo, cX9_undo, 2, (some .int), RX9)
theorem kmX9_undo : MKV mX9_undo 0 := ⟨(lk_r43 _ (List.mem_of_getElem? (i := 13) rfl)), (lk_r1 _ (List.mem_of_getElem? (i := 5) rfl)), (lk_r43 _ (List.mem_of_getElem? (i := 11) rfl)), (lk_r43 _ (List.mem_of_getElem? (i := 12) rfl)), by decide +kernel, by decide, rfl⟩
abbrev mX8_count : MD := (yX8_count, cX8_count, 2, (some .int), RX8)
theorem kmX8_count : MKV mX8_count 1 := ⟨(lk_r43 _ (List.mem_of_getElem? (i := 17) rfl)), (lk_r1 _ (List.mem_of_getElem? (i := 2) rfl)), (lk_r43 _ (List.mem_of_getElem? (i := 15) rfl)), (lk_r43 _ (List.mem_of_getElem? (i := 16) rfl)), by decide +kernel, by decide, rfl⟩
abbrev mX9_count : MD := (yX9_count, cX9_count, 2, (some .int), RX9)
theorem kmX9_count : MKV mX9_count 1 := ⟨(lk_r43 _ (List.mem_of_getElem? (i := 21) rfl)), (lk_r1 _ (List.mem_of_getElem? (i := 5) rfl)), (lk_r43 _ (List.mem_of_getElem? (i := 19) rfl)), (lk_r43 _ (List.mem_of_getElem? (i := 20) rfl)), by decide +kernel, by decide, rfl⟩
theorem ml_L_9 : Cond.methodLink RL 9 yX8_init ∈ wsL_law := (lk_r1 _ (List.mem_of_getElem? (i := 6) rfl))
theorem ml_X8_11 : Cond.methodLink RX8 11 yX0_init ∈ wsL_law := (lk_r3 _ (List.mem_of_getElem? (i := 2) rfl))
theorem ml_X8_27 : Cond.methodLink RX8 27 yX2_init ∈ wsL_law := (lk_r3 _ (List.mem_of_getElem? (i := 8) rfl))
theorem ml_X2_17 : Cond.methodLink RX2 17 yX0_init ∈ wsL_law := (lk_r3 _ (List.mem_of_getElem? (i := 14) rfl))
theorem ml_X8_34 : Cond.methodLink RX8 34 yX5_init ∈ wsL_law := (lk_r3 _ (List.mem_of_getElem? (i := 15) rfl))
theorem ml_X5_17 : Cond.methodLink RX5 17 yX0_init ∈ wsL_law := (lk_r3 _ (List.mem_of_getElem? (i := 21) rfl))
theorem ml_X4_11 : Cond.methodLink RX4 11 yX0_init ∈ wsL_law := (lk_r4 _ (List.mem_of_getElem? (i := 11) rfl))
theorem ml_X8_65 : Cond.methodLink RX8 65 yX3_init ∈ wsL_law := (lk_r4 _ (List.mem_of_getElem? (i := 16) rfl))
theorem ml_L_12 : Cond.methodLink RL 12 yX9_init ∈ wsL_law := (lk_r5 _ (List.mem_of_getElem? (i := 5) rfl))
theorem ml_L_13 : Cond.methodLink RL 13 yX8_bodies ∈ wsL_law := (lk_r6 _ (List.mem_of_getElem? (i := 12) rfl))
theorem ml_X8_85 : Cond.methodLink RX8 85 yX0_empty ∈ wsL_law := (lk_r6 _ (List.mem_of_getElem? (i := 16) rfl))
theorem ml_X8_89 : Cond.methodLink RX8 89 yX2_forget ∈ wsL_law := (lk_r6 _ (List.mem_of_getElem? (i := 20) rfl))
theorem ml_L_17 : Cond.methodLink RL 17 yX9_bodies ∈ wsL_law := (lk_r7 _ (List.mem_of_getElem? (i := 1) rfl))
theorem ml_X9_91 : Cond.methodLink RX9 91 yX9_in ∈ wsL_law := (lk_r7 _ (List.mem_of_getElem? (i := 6) rfl))
theorem ml_L_18 : Cond.methodLink RL 18 yX8_make ∈ wsL_law := (lk_r7 _ (List.mem_of_getElem? (i := 9) rfl))
theorem ml_X8_92 : Cond.methodLink RX8 92 yX2_note ∈ wsL_law := (lk_r7 _ (List.mem_of_getElem? (i := 13) rfl))
theorem ml_X2_22 : Cond.methodLink RX2 22 yX0_copyOf ∈ wsL_law := (lk_r7 _ (List.mem_of_getElem? (i := 22) rfl))
theorem ml_X8_96 : Cond.methodLink RX8 96 yX0_become ∈ wsL_law := (lk_r8 _ (List.mem_of_getElem? (i := 6) rfl))
theorem ml_X0_35 : Cond.methodLink RX0 35 yX0_empty ∈ wsL_law := (lk_r8 _ (List.mem_of_getElem? (i := 10) rfl))
theorem ml_X0_38 : Cond.methodLink RX0 38 yX0_arc ∈ wsL_law := (lk_r8 _ (List.mem_of_getElem? (i := 11) rfl))
theorem ml_X0_31 : Cond.methodLink RX0 31 yX0_toggle ∈ wsL_law := (lk_r8 _ (List.mem_of_getElem? (i := 15) rfl))
theorem ml_X0_41 : Cond.methodLink RX0 41 yX0_toggleAround ∈ wsL_law := (lk_r8 _ (List.mem_of_getElem? (i := 19) rfl))
theorem ml_X0_44 : Cond.methodLink RX0 44 yX0_addArcs ∈ wsL_law := (lk_r8 _ (List.mem_of_getElem? (i := 23) rfl))
theorem ml_X0_47 : Cond.methodLink RX0 47 yX0_addCross ∈ wsL_law := (lk_r9 _ (List.mem_of_getElem? (i := 3) rfl))
theorem ml_X8_99 : Cond.methodLink RX8 99 yX0_total ∈ wsL_law := (lk_r9 _ (List.mem_of_getElem? (i := 7) rfl))
theorem ml_L_21 : Cond.methodLink RL 21 yX9_make ∈ wsL_law := (lk_r9 _ (List.mem_of_getElem? (i := 11) rfl))
theorem ml_X9_130 : Cond.methodLink RX9 130 yX9_remembers ∈ wsL_law := (lk_r9 _ (List.mem_of_getElem? (i := 15) rfl))
theorem ml_X9_123 : Cond.methodLink RX9 123 yX9_lays ∈ wsL_law := (lk_r9 _ (List.mem_of_getElem? (i := 19) rfl))
theorem ml_X9_110 : Cond.methodLink RX9 110 yX9_many ∈ wsL_law := (lk_r9 _ (List.mem_of_getElem? (i := 23) rfl))
theorem ml_X9_95 : Cond.methodLink RX9 95 yJ6_bitCount_0f7a4 ∈ wsL_law := (lk_r10 _ (List.mem_of_getElem? (i := 2) rfl))
theorem ml_X9_133 : Cond.methodLink RX9 133 yX9_isCross ∈ wsL_law := (lk_r10 _ (List.mem_of_getElem? (i := 9) rfl))
theorem ml_X9_127 : Cond.methodLink RX9 127 yX9_isOne ∈ wsL_law := (lk_r10 _ (List.mem_of_getElem? (i := 13) rfl))
theorem ml_X9_137 : Cond.methodLink RX9 137 yX9_run ∈ wsL_law := (lk_r10 _ (List.mem_of_getElem? (i := 16) rfl))
theorem ml_X9_140 : Cond.methodLink RX9 140 yX9_bodiesOf ∈ wsL_law := (lk_r10 _ (List.mem_of_getElem? (i := 20) rfl))
theorem ml_L_22 : Cond.methodLink RL 22 yX8_body ∈ wsL_law := (lk_r10 _ (List.mem_of_getElem? (i := 23) rfl))
theorem ml_X8_103 : Cond.methodLink RX8 103 yJ6_bitCount_0f7a4 ∈ wsL_law := (lk_r11 _ (List.mem_of_getElem? (i := 3) rfl))
theorem ml_X8_109 : Cond.methodLink RX8 109 yX0_toggle ∈ wsL_law := (lk_r11 _ (List.mem_of_getElem? (i := 4) rfl))
theorem ml_L_25 : Cond.methodLink RL 25 yX9_body ∈ wsL_law := (lk_r11 _ (List.mem_of_getElem? (i := 5) rfl))
theorem ml_X9_147 : Cond.methodLink RX9 147 yX9_isBody ∈ wsL_law := (lk_r11 _ (List.mem_of_getElem? (i := 9) rfl))
theorem ml_X9_144 : Cond.methodLink RX9 144 yX9_isSet ∈ wsL_law := (lk_r11 _ (List.mem_of_getElem? (i := 13) rfl))
theorem ml_L_26 : Cond.methodLink RL 26 yX8_bodyOf ∈ wsL_law := (lk_r11 _ (List.mem_of_getElem? (i := 16) rfl))
theorem ml_X8_112 : Cond.methodLink RX8 112 yX0_setAt ∈ wsL_law := (lk_r11 _ (List.mem_of_getElem? (i := 20) rfl))
theorem ml_X0_25 : Cond.methodLink RX0 25 yJ6_bitCount_0f7a4 ∈ wsL_law := (lk_r12 _ (List.mem_of_getElem? (i := 0) rfl))
theorem ml_L_29 : Cond.methodLink RL 29 yX9_bodyOf ∈ wsL_law := (lk_r12 _ (List.mem_of_getElem? (i := 1) rfl))
theorem ml_L_30 : Cond.methodLink RL 30 yX8_heap ∈ wsL_law := (lk_r12 _ (List.mem_of_getElem? (i := 5) rfl))
theorem ml_X8_116 : Cond.methodLink RX8 116 yX0_there ∈ wsL_law := (lk_r12 _ (List.mem_of_getElem? (i := 9) rfl))
theorem ml_X0_50 : Cond.methodLink RX0 50 yX0_linkPoints ∈ wsL_law := (lk_r12 _ (List.mem_of_getElem? (i := 13) rfl))
theorem ml_X8_119 : Cond.methodLink RX8 119 yX0_walls ∈ wsL_law := (lk_r12 _ (List.mem_of_getElem? (i := 17) rfl))
theorem ml_X0_56 : Cond.methodLink RX0 56 yX0_isWall ∈ wsL_law := (lk_r12 _ (List.mem_of_getElem? (i := 21) rfl))
theorem ml_X8_122 : Cond.methodLink RX8 122 yX0_isRight ∈ wsL_law := (lk_r13 _ (List.mem_of_getElem? (i := 1) rfl))
theorem ml_X8_126 : Cond.methodLink RX8 126 yX0_euler ∈ wsL_law := (lk_r13 _ (List.mem_of_getElem? (i := 5) rfl))
theorem ml_X0_53 : Cond.methodLink RX0 53 yX0_facesOf ∈ wsL_law := (lk_r13 _ (List.mem_of_getElem? (i := 9) rfl))
theorem ml_X8_129 : Cond.methodLink RX8 129 yX7_parts ∈ wsL_law := (lk_r13 _ (List.mem_of_getElem? (i := 13) rfl))
theorem ml_X7_51 : Cond.methodLink RX7 51 yX7_load ∈ wsL_law := (lk_r13 _ (List.mem_of_getElem? (i := 18) rfl))
theorem ml_X7_34 : Cond.methodLink RX7 34 yX0_isBody ∈ wsL_law := (lk_r13 _ (List.mem_of_getElem? (i := 23) rfl))
theorem ml_X7_55 : Cond.methodLink RX7 55 yX7_spread ∈ wsL_law := (lk_r14 _ (List.mem_of_getElem? (i := 3) rfl))
theorem ml_X7_44 : Cond.methodLink RX7 44 yX7_beside ∈ wsL_law := (lk_r14 _ (List.mem_of_getElem? (i := 7) rfl))
theorem ml_X7_38 : Cond.methodLink RX7 38 yJ6_bitCount_0f7a4 ∈ wsL_law := (lk_r14 _ (List.mem_of_getElem? (i := 11) rfl))
theorem ml_X7_48 : Cond.methodLink RX7 48 yX7_sameSign ∈ wsL_law := (lk_r14 _ (List.mem_of_getElem? (i := 12) rfl))
theorem ml_X8_133 : Cond.methodLink RX8 133 yX7_twoSided ∈ wsL_law := (lk_r14 _ (List.mem_of_getElem? (i := 16) rfl))
theorem ml_X7_59 : Cond.methodLink RX7 59 yX7_parts ∈ wsL_law := (lk_r14 _ (List.mem_of_getElem? (i := 20) rfl))
theorem ml_L_33 : Cond.methodLink RL 33 yX9_heap ∈ wsL_law := (lk_r14 _ (List.mem_of_getElem? (i := 21) rfl))
theorem ml_X9_150 : Cond.methodLink RX9 150 yX9_layFaces ∈ wsL_law := (lk_r15 _ (List.mem_of_getElem? (i := 2) rfl))
theorem ml_X9_154 : Cond.methodLink RX9 154 yX9_walls ∈ wsL_law := (lk_r15 _ (List.mem_of_getElem? (i := 6) rfl))
theorem ml_X9_116 : Cond.methodLink RX9 116 yX9_isWall ∈ wsL_law := (lk_r15 _ (List.mem_of_getElem? (i := 10) rfl))
theorem ml_X9_157 : Cond.methodLink RX9 157 yX9_right ∈ wsL_law := (lk_r15 _ (List.mem_of_getElem? (i := 14) rfl))
theorem ml_X9_161 : Cond.methodLink RX9 161 yX9_euler ∈ wsL_law := (lk_r15 _ (List.mem_of_getElem? (i := 18) rfl))
theorem ml_X9_113 : Cond.methodLink RX9 113 yX9_facesOf ∈ wsL_law := (lk_r15 _ (List.mem_of_getElem? (i := 22) rfl))
theorem ml_X9_164 : Cond.methodLink RX9 164 yX9_parts ∈ wsL_law := (lk_r16 _ (List.mem_of_getElem? (i := 2) rfl))
theorem ml_X9_174 : Cond.methodLink RX9 174 yX9_spreads ∈ wsL_law := (lk_r16 _ (List.mem_of_getElem? (i := 6) rfl))
theorem ml_X9_171 : Cond.methodLink RX9 171 yX9_areBeside ∈ wsL_law := (lk_r16 _ (List.mem_of_getElem? (i := 10) rfl))
theorem ml_X9_167 : Cond.methodLink RX9 167 yX9_isTwoSided ∈ wsL_law := (lk_r16 _ (List.mem_of_getElem? (i := 14) rfl))
theorem ml_X9_188 : Cond.methodLink RX9 188 yX9_areAgreed ∈ wsL_law := (lk_r16 _ (List.mem_of_getElem? (i := 18) rfl))
theorem ml_X9_191 : Cond.methodLink RX9 191 yX9_areSigned ∈ wsL_law := (lk_r16 _ (List.mem_of_getElem? (i := 22) rfl))
theorem ml_X9_184 : Cond.methodLink RX9 184 yX9_below ∈ wsL_law := (lk_r17 _ (List.mem_of_getElem? (i := 2) rfl))
theorem ml_L_34 : Cond.methodLink RL 34 yX8_faces ∈ wsL_law := (lk_r17 _ (List.mem_of_getElem? (i := 6) rfl))
theorem ml_X8_137 : Cond.methodLink RX8 137 yX0_facesOf ∈ wsL_law := (lk_r17 _ (List.mem_of_getElem? (i := 10) rfl))
theorem ml_L_37 : Cond.methodLink RL 37 yX9_faces ∈ wsL_law := (lk_r17 _ (List.mem_of_getElem? (i := 11) rfl))
theorem ml_L_38 : Cond.methodLink RL 38 yX8_face ∈ wsL_law := (lk_r17 _ (List.mem_of_getElem? (i := 15) rfl))
theorem ml_X8_140 : Cond.methodLink RX8 140 yX8_isSet ∈ wsL_law := (lk_r17 _ (List.mem_of_getElem? (i := 19) rfl))
theorem ml_X8_144 : Cond.methodLink RX8 144 yX0_holders ∈ wsL_law := (lk_r17 _ (List.mem_of_getElem? (i := 22) rfl))
theorem ml_X8_147 : Cond.methodLink RX8 147 yX0_linkSets ∈ wsL_law := (lk_r18 _ (List.mem_of_getElem? (i := 2) rfl))
theorem ml_X8_150 : Cond.methodLink RX8 150 yX0_linkPoints ∈ wsL_law := (lk_r18 _ (List.mem_of_getElem? (i := 6) rfl))
theorem ml_L_42 : Cond.methodLink RL 42 yX9_face ∈ wsL_law := (lk_r18 _ (List.mem_of_getElem? (i := 7) rfl))
theorem ml_X9_194 : Cond.methodLink RX9 194 yX9_linkOf ∈ wsL_law := (lk_r18 _ (List.mem_of_getElem? (i := 11) rfl))
theorem ml_X9_197 : Cond.methodLink RX9 197 yX9_linked ∈ wsL_law := (lk_r18 _ (List.mem_of_getElem? (i := 15) rfl))
theorem ml_L_43 : Cond.methodLink RL 43 yX8_wall ∈ wsL_law := (lk_r18 _ (List.mem_of_getElem? (i := 19) rfl))
theorem ml_L_46 : Cond.methodLink RL 46 yX9_wall ∈ wsL_law := (lk_r18 _ (List.mem_of_getElem? (i := 23) rfl))
theorem ml_L_47 : Cond.methodLink RL 47 yX8_apart ∈ wsL_law := (lk_r19 _ (List.mem_of_getElem? (i := 3) rfl))
theorem ml_X8_153 : Cond.methodLink RX8 153 yX7_between ∈ wsL_law := (lk_r19 _ (List.mem_of_getElem? (i := 7) rfl))
theorem ml_L_50 : Cond.methodLink RL 50 yX9_apart ∈ wsL_law := (lk_r19 _ (List.mem_of_getElem? (i := 11) rfl))
theorem ml_X9_181 : Cond.methodLink RX9 181 yX9_bodyAt ∈ wsL_law := (lk_r19 _ (List.mem_of_getElem? (i := 15) rfl))
theorem ml_X9_178 : Cond.methodLink RX9 178 yX9_bodyOf ∈ wsL_law := (lk_r19 _ (List.mem_of_getElem? (i := 19) rfl))
theorem ml_L_51 : Cond.methodLink RL 51 yX8_shelled ∈ wsL_law := (lk_r19 _ (List.mem_of_getElem? (i := 20) rfl))
theorem ml_X8_157 : Cond.methodLink RX8 157 yX3_state ∈ wsL_law := (lk_r20 _ (List.mem_of_getElem? (i := 0) rfl))
theorem ml_X3_18 : Cond.methodLink RX3 18 yX3_isList ∈ wsL_law := (lk_r20 _ (List.mem_of_getElem? (i := 5) rfl))
theorem ml_X8_160 : Cond.methodLink RX8 160 yX7_load ∈ wsL_law := (lk_r20 _ (List.mem_of_getElem? (i := 9) rfl))
theorem ml_X8_163 : Cond.methodLink RX8 163 yX3_sizeOf ∈ wsL_law := (lk_r20 _ (List.mem_of_getElem? (i := 10) rfl))
theorem ml_X8_166 : Cond.methodLink RX8 166 yX7_fits ∈ wsL_law := (lk_r20 _ (List.mem_of_getElem? (i := 14) rfl))
theorem ml_X7_63 : Cond.methodLink RX7 63 yX3_at ∈ wsL_law := (lk_r20 _ (List.mem_of_getElem? (i := 18) rfl))
theorem ml_X7_69 : Cond.methodLink RX7 69 yX7_bodyAt ∈ wsL_law := (lk_r20 _ (List.mem_of_getElem? (i := 22) rfl))
theorem ml_L_54 : Cond.methodLink RL 54 yX9_shelled ∈ wsL_law := (lk_r21 _ (List.mem_of_getElem? (i := 2) rfl))
theorem ml_X9_336 : Cond.methodLink RX9 336 yX9_isList ∈ wsL_law := (lk_r21 _ (List.mem_of_getElem? (i := 6) rfl))
theorem ml_X9_339 : Cond.methodLink RX9 339 yX9_isAgain ∈ wsL_law := (lk_r21 _ (List.mem_of_getElem? (i := 9) rfl))
theorem ml_X9_342 : Cond.methodLink RX9 342 yX9_isFit ∈ wsL_law := (lk_r21 _ (List.mem_of_getElem? (i := 13) rfl))
theorem ml_L_55 : Cond.methodLink RL 55 yX8_flips ∈ wsL_law := (lk_r21 _ (List.mem_of_getElem? (i := 17) rfl))
theorem ml_X8_176 : Cond.methodLink RX8 176 yX0_gather ∈ wsL_law := (lk_r21 _ (List.mem_of_getElem? (i := 21) rfl))
theorem ml_X0_64 : Cond.methodLink RX0 64 yX0_partner ∈ wsL_law := (lk_r22 _ (List.mem_of_getElem? (i := 1) rfl))
theorem ml_X0_60 : Cond.methodLink RX0 60 yX0_there ∈ wsL_law := (lk_r22 _ (List.mem_of_getElem? (i := 5) rfl))
theorem ml_L_58 : Cond.methodLink RL 58 yX9_flips ∈ wsL_law := (lk_r22 _ (List.mem_of_getElem? (i := 6) rfl))
theorem ml_X9_203 : Cond.methodLink RX9 203 yX9_layFlips ∈ wsL_law := (lk_r22 _ (List.mem_of_getElem? (i := 10) rfl))
theorem ml_X9_200 : Cond.methodLink RX9 200 yX9_forWhat ∈ wsL_law := (lk_r22 _ (List.mem_of_getElem? (i := 14) rfl))
theorem ml_L_59 : Cond.methodLink RL 59 yX8_flipOf ∈ wsL_law := (lk_r22 _ (List.mem_of_getElem? (i := 18) rfl))
theorem ml_X8_180 : Cond.methodLink RX8 180 yX0_partner ∈ wsL_law := (lk_r22 _ (List.mem_of_getElem? (i := 22) rfl))
theorem ml_L_62 : Cond.methodLink RL 62 yX9_flipOf ∈ wsL_law := (lk_r22 _ (List.mem_of_getElem? (i := 23) rfl))
theorem ml_L_63 : Cond.methodLink RL 63 yX8_number ∈ wsL_law := (lk_r23 _ (List.mem_of_getElem? (i := 3) rfl))
theorem ml_X8_183 : Cond.methodLink RX8 183 yX0_numberOf ∈ wsL_law := (lk_r23 _ (List.mem_of_getElem? (i := 7) rfl))
theorem ml_L_66 : Cond.methodLink RL 66 yX9_number ∈ wsL_law := (lk_r23 _ (List.mem_of_getElem? (i := 11) rfl))
theorem ml_X9_207 : Cond.methodLink RX9 207 yX9_find ∈ wsL_law := (lk_r23 _ (List.mem_of_getElem? (i := 15) rfl))
theorem ml_L_67 : Cond.methodLink RL 67 yX8_flip ∈ wsL_law := (lk_r23 _ (List.mem_of_getElem? (i := 19) rfl))
theorem ml_X8_186 : Cond.methodLink RX8 186 yX0_flipAt ∈ wsL_law := (lk_r23 _ (List.mem_of_getElem? (i := 23) rfl))
theorem ml_L_70 : Cond.methodLink RL 70 yX9_flip ∈ wsL_law := (lk_r24 _ (List.mem_of_getElem? (i := 3) rfl))
theorem ml_X9_210 : Cond.methodLink RX9 210 yX9_does ∈ wsL_law := (lk_r24 _ (List.mem_of_getElem? (i := 7) rfl))
theorem ml_L_71 : Cond.methodLink RL 71 yX8_other ∈ wsL_law := (lk_r24 _ (List.mem_of_getElem? (i := 11) rfl))
theorem ml_X8_170 : Cond.methodLink RX8 170 yX0_copyOf ∈ wsL_law := (lk_r24 _ (List.mem_of_getElem? (i := 15) rfl))
theorem ml_L_74 : Cond.methodLink RL 74 yX9_other ∈ wsL_law := (lk_r24 _ (List.mem_of_getElem? (i := 16) rfl))
theorem ml_L_75 : Cond.methodLink RL 75 yX8_plan ∈ wsL_law := (lk_r24 _ (List.mem_of_getElem? (i := 20) rfl))
theorem ml_X8_189 : Cond.methodLink RX8 189 yX3_isList ∈ wsL_law := (lk_r25 _ (List.mem_of_getElem? (i := 0) rfl))
theorem ml_X8_192 : Cond.methodLink RX8 192 yX3_at ∈ wsL_law := (lk_r25 _ (List.mem_of_getElem? (i := 1) rfl))
theorem ml_L_78 : Cond.methodLink RL 78 yX9_plan ∈ wsL_law := (lk_r25 _ (List.mem_of_getElem? (i := 2) rfl))
theorem ml_L_79 : Cond.methodLink RL 79 yX8_cone ∈ wsL_law := (lk_r25 _ (List.mem_of_getElem? (i := 6) rfl))
theorem ml_X8_173 : Cond.methodLink RX8 173 yX0_isWall ∈ wsL_law := (lk_r25 _ (List.mem_of_getElem? (i := 10) rfl))
theorem ml_L_82 : Cond.methodLink RL 82 yX9_cone ∈ wsL_law := (lk_r25 _ (List.mem_of_getElem? (i := 11) rfl))
theorem ml_L_83 : Cond.methodLink RL 83 yX8_back ∈ wsL_law := (lk_r25 _ (List.mem_of_getElem? (i := 15) rfl))
theorem ml_X8_205 : Cond.methodLink RX8 205 yX2_restore ∈ wsL_law := (lk_r25 _ (List.mem_of_getElem? (i := 19) rfl))
theorem ml_L_87 : Cond.methodLink RL 87 yX9_back ∈ wsL_law := (lk_r25 _ (List.mem_of_getElem? (i := 23) rfl))
theorem ml_L_88 : Cond.methodLink RL 88 yX8_keep ∈ wsL_law := (lk_r26 _ (List.mem_of_getElem? (i := 3) rfl))
theorem ml_X8_208 : Cond.methodLink RX8 208 yX5_add ∈ wsL_law := (lk_r26 _ (List.mem_of_getElem? (i := 7) rfl))
theorem ml_X5_22 : Cond.methodLink RX5 22 yX0_copyOf ∈ wsL_law := (lk_r26 _ (List.mem_of_getElem? (i := 12) rfl))
theorem ml_L_91 : Cond.methodLink RL 91 yX9_keep ∈ wsL_law := (lk_r26 _ (List.mem_of_getElem? (i := 13) rfl))
theorem ml_L_92 : Cond.methodLink RL 92 yX8_take ∈ wsL_law := (lk_r26 _ (List.mem_of_getElem? (i := 18) rfl))
theorem ml_X8_214 : Cond.methodLink RX8 214 yX5_at ∈ wsL_law := (lk_r26 _ (List.mem_of_getElem? (i := 22) rfl))
theorem ml_L_95 : Cond.methodLink RL 95 yX9_take ∈ wsL_law := (lk_r27 _ (List.mem_of_getElem? (i := 2) rfl))
theorem ml_X9_217 : Cond.methodLink RX9 217 yX9_isKept ∈ wsL_law := (lk_r27 _ (List.mem_of_getElem? (i := 6) rfl))
theorem ml_L_96 : Cond.methodLink RL 96 yX8_kept ∈ wsL_law := (lk_r27 _ (List.mem_of_getElem? (i := 10) rfl))
theorem ml_L_99 : Cond.methodLink RL 99 yX9_kept ∈ wsL_law := (lk_r27 _ (List.mem_of_getElem? (i := 14) rfl))
theorem ml_L_100 : Cond.methodLink RL 100 yX8_chain ∈ wsL_law := (lk_r27 _ (List.mem_of_getElem? (i := 18) rfl))
theorem ml_X8_217 : Cond.methodLink RX8 217 yX4_fewest ∈ wsL_law := (lk_r27 _ (List.mem_of_getElem? (i := 22) rfl))
theorem ml_X4_22 : Cond.methodLink RX4 22 yX0_copyOf ∈ wsL_law := (lk_r28 _ (List.mem_of_getElem? (i := 4) rfl))
theorem ml_X4_33 : Cond.methodLink RX4 33 yX4_gap ∈ wsL_law := (lk_r28 _ (List.mem_of_getElem? (i := 5) rfl))
theorem ml_X4_41 : Cond.methodLink RX4 41 yX0_isBody ∈ wsL_law := (lk_r28 _ (List.mem_of_getElem? (i := 9) rfl))
theorem ml_X4_37 : Cond.methodLink RX4 37 yX4_reach ∈ wsL_law := (lk_r28 _ (List.mem_of_getElem? (i := 10) rfl))
theorem ml_X4_51 : Cond.methodLink RX4 51 yX0_partner ∈ wsL_law := (lk_r28 _ (List.mem_of_getElem? (i := 13) rfl))
theorem ml_X4_55 : Cond.methodLink RX4 55 yX4_widened ∈ wsL_law := (lk_r28 _ (List.mem_of_getElem? (i := 14) rfl))
theorem ml_X4_58 : Cond.methodLink RX4 58 yJ6_bitCount_0f7a4 ∈ wsL_law := (lk_r28 _ (List.mem_of_getElem? (i := 18) rfl))
theorem ml_X4_63 : Cond.methodLink RX4 63 yX0_toggleAround ∈ wsL_law := (lk_r28 _ (List.mem_of_getElem? (i := 19) rfl))
theorem ml_L_104 : Cond.methodLink RL 104 yX9_chain ∈ wsL_law := (lk_r28 _ (List.mem_of_getElem? (i := 20) rfl))
theorem ml_X9_224 : Cond.methodLink RX9 224 yX9_leads ∈ wsL_law := (lk_r29 _ (List.mem_of_getElem? (i := 0) rfl))
theorem ml_X9_220 : Cond.methodLink RX9 220 yX9_areSame ∈ wsL_law := (lk_r29 _ (List.mem_of_getElem? (i := 4) rfl))
theorem ml_L_105 : Cond.methodLink RL 105 yX8_alike ∈ wsL_law := (lk_r29 _ (List.mem_of_getElem? (i := 7) rfl))
theorem ml_X8_224 : Cond.methodLink RX8 224 yX1_fit ∈ wsL_law := (lk_r29 _ (List.mem_of_getElem? (i := 11) rfl))
theorem ml_X1_21 : Cond.methodLink RX1 21 yX0_total ∈ wsL_law := (lk_r29 _ (List.mem_of_getElem? (i := 17) rfl))
theorem ml_X1_32 : Cond.methodLink RX1 32 yX1_name ∈ wsL_law := (lk_r29 _ (List.mem_of_getElem? (i := 18) rfl))
theorem ml_X1_36 : Cond.methodLink RX1 36 yX1_agrees ∈ wsL_law := (lk_r29 _ (List.mem_of_getElem? (i := 21) rfl))
theorem ml_L_108 : Cond.methodLink RL 108 yX9_alike ∈ wsL_law := (lk_r30 _ (List.mem_of_getElem? (i := 1) rfl))
theorem ml_X9_234 : Cond.methodLink RX9 234 yX9_canName ∈ wsL_law := (lk_r30 _ (List.mem_of_getElem? (i := 5) rfl))
theorem ml_X9_228 : Cond.methodLink RX9 228 yX9_areNamed ∈ wsL_law := (lk_r30 _ (List.mem_of_getElem? (i := 9) rfl))
theorem ml_X9_231 : Cond.methodLink RX9 231 yX9_named ∈ wsL_law := (lk_r30 _ (List.mem_of_getElem? (i := 12) rfl))
theorem ml_L_109 : Cond.methodLink RL 109 yX8_common ∈ wsL_law := (lk_r30 _ (List.mem_of_getElem? (i := 16) rfl))
theorem ml_X8_228 : Cond.methodLink RX8 228 yX0_isBody ∈ wsL_law := (lk_r30 _ (List.mem_of_getElem? (i := 20) rfl))
theorem ml_L_112 : Cond.methodLink RL 112 yX9_common ∈ wsL_law := (lk_r30 _ (List.mem_of_getElem? (i := 21) rfl))
theorem ml_L_113 : Cond.methodLink RL 113 yX8_fewer ∈ wsL_law := (lk_r31 _ (List.mem_of_getElem? (i := 1) rfl))
theorem ml_X8_196 : Cond.methodLink RX8 196 yX0_firstFewer ∈ wsL_law := (lk_r31 _ (List.mem_of_getElem? (i := 5) rfl))
theorem ml_L_116 : Cond.methodLink RL 116 yX9_fewer ∈ wsL_law := (lk_r31 _ (List.mem_of_getElem? (i := 9) rfl))
theorem ml_X9_238 : Cond.methodLink RX9 238 yX9_firstFewer ∈ wsL_law := (lk_r31 _ (List.mem_of_getElem? (i := 13) rfl))
theorem ml_L_117 : Cond.methodLink RL 117 yX8_walk ∈ wsL_law := (lk_r31 _ (List.mem_of_getElem? (i := 17) rfl))
theorem ml_L_120 : Cond.methodLink RL 120 yX9_walk ∈ wsL_law := (lk_r32 _ (List.mem_of_getElem? (i := 0) rfl))
theorem ml_L_121 : Cond.methodLink RL 121 yX8_feed ∈ wsL_law := (lk_r32 _ (List.mem_of_getElem? (i := 6) rfl))
theorem ml_X8_238 : Cond.methodLink RX8 238 yX6_add ∈ wsL_law := (lk_r32 _ (List.mem_of_getElem? (i := 10) rfl))
theorem ml_L_124 : Cond.methodLink RL 124 yX9_feed ∈ wsL_law := (lk_r32 _ (List.mem_of_getElem? (i := 15) rfl))
theorem ml_L_125 : Cond.methodLink RL 125 yX8_read ∈ wsL_law := (lk_r32 _ (List.mem_of_getElem? (i := 20) rfl))
theorem ml_X8_243 : Cond.methodLink RX8 243 yX6_split ∈ wsL_law := (lk_r33 _ (List.mem_of_getElem? (i := 0) rfl))
theorem ml_X6_32 : Cond.methodLink RX6 32 yX6_behind ∈ wsL_law := (lk_r33 _ (List.mem_of_getElem? (i := 5) rfl))
theorem ml_X6_36 : Cond.methodLink RX6 36 yX6_wordAt ∈ wsL_law := (lk_r33 _ (List.mem_of_getElem? (i := 9) rfl))
theorem ml_X6_46 : Cond.methodLink RX6 46 yX6_wordOf ∈ wsL_law := (lk_r33 _ (List.mem_of_getElem? (i := 13) rfl))
theorem ml_X6_50 : Cond.methodLink RX6 50 yX6_stands ∈ wsL_law := (lk_r33 _ (List.mem_of_getElem? (i := 16) rfl))
theorem ml_X6_54 : Cond.methodLink RX6 54 yJ0_length_8abf5 ∈ wsL_law := (lk_r33 _ (List.mem_of_getElem? (i := 20) rfl))
theorem ml_J0_335 : Cond.methodLink RJ0 335 yJ0_coder_7d493 ∈ wsL_law := (lk_r34 _ (List.mem_of_getElem? (i := 2) rfl))
theorem ml_X6_60 : Cond.methodLink RX6 60 yJ0_charAt_5068e ∈ wsL_law := (lk_r34 _ (List.mem_of_getElem? (i := 8) rfl))
theorem ml_J0_492 : Cond.methodLink RJ0 492 yJ0_isLatin1_aae02 ∈ wsL_law := (lk_r34 _ (List.mem_of_getElem? (i := 12) rfl))
theorem ml_J0_495 : Cond.methodLink RJ0 495 yJ1_charAt_3b067 ∈ wsL_law := (lk_r34 _ (List.mem_of_getElem? (i := 16) rfl))
theorem ml_J1_9 : Cond.methodLink RJ1 9 yJ0_checkIndex_df160 ∈ wsL_law := (lk_r34 _ (List.mem_of_getElem? (i := 20) rfl))
theorem ml_J0_1059 : Cond.methodLink RJ0 1059 yJ3_checkIndex_8e157 ∈ wsL_law := (lk_r35 _ (List.mem_of_getElem? (i := 0) rfl))
theorem ml_J0_498 : Cond.methodLink RJ0 498 yJ2_charAt_3b067 ∈ wsL_law := (lk_r35 _ (List.mem_of_getElem? (i := 4) rfl))
theorem ml_J2_67 : Cond.methodLink RJ2 67 yJ2_checkIndex_2214a ∈ wsL_law := (lk_r35 _ (List.mem_of_getElem? (i := 8) rfl))
theorem ml_J2_48 : Cond.methodLink RJ2 48 yJ2_length_9d52b ∈ wsL_law := (lk_r35 _ (List.mem_of_getElem? (i := 11) rfl))
theorem ml_J2_414 : Cond.methodLink RJ2 414 yJ0_checkIndex_df160 ∈ wsL_law := (lk_r35 _ (List.mem_of_getElem? (i := 14) rfl))
theorem ml_J2_71 : Cond.methodLink RJ2 71 yJ2_getChar_3b067 ∈ wsL_law := (lk_r35 _ (List.mem_of_getElem? (i := 15) rfl))
theorem ml_X8_249 : Cond.methodLink RX8 249 yX8_obey ∈ wsL_law := (lk_r35 _ (List.mem_of_getElem? (i := 21) rfl))
theorem ml_X8_278 : Cond.methodLink RX8 278 yX8_make ∈ wsL_law := (lk_r36 _ (List.mem_of_getElem? (i := 1) rfl))
theorem ml_X8_281 : Cond.methodLink RX8 281 yX8_bodies ∈ wsL_law := (lk_r36 _ (List.mem_of_getElem? (i := 2) rfl))
theorem ml_X8_284 : Cond.methodLink RX8 284 yX6_value ∈ wsL_law := (lk_r36 _ (List.mem_of_getElem? (i := 3) rfl))
theorem ml_X8_287 : Cond.methodLink RX8 287 yX8_flip ∈ wsL_law := (lk_r36 _ (List.mem_of_getElem? (i := 7) rfl))
theorem ml_X8_290 : Cond.methodLink RX8 290 yX8_keep ∈ wsL_law := (lk_r36 _ (List.mem_of_getElem? (i := 8) rfl))
theorem ml_X8_293 : Cond.methodLink RX8 293 yX8_take ∈ wsL_law := (lk_r36 _ (List.mem_of_getElem? (i := 9) rfl))
theorem ml_X8_296 : Cond.methodLink RX8 296 yX6_pointSet ∈ wsL_law := (lk_r36 _ (List.mem_of_getElem? (i := 10) rfl))
theorem ml_X8_299 : Cond.methodLink RX8 299 yX8_body ∈ wsL_law := (lk_r36 _ (List.mem_of_getElem? (i := 14) rfl))
theorem ml_L_128 : Cond.methodLink RL 128 yX9_read ∈ wsL_law := (lk_r36 _ (List.mem_of_getElem? (i := 15) rfl))
theorem ml_X9_324 : Cond.methodLink RX9 324 yX9_takesAll ∈ wsL_law := (lk_r36 _ (List.mem_of_getElem? (i := 21) rfl))
theorem ml_X9_307 : Cond.methodLink RX9 307 yX9_takesWord ∈ wsL_law := (lk_r37 _ (List.mem_of_getElem? (i := 1) rfl))
theorem ml_X9_281 : Cond.methodLink RX9 281 yX9_isLetter ∈ wsL_law := (lk_r37 _ (List.mem_of_getElem? (i := 5) rfl))
theorem ml_X9_284 : Cond.methodLink RX9 284 yX9_wordOf ∈ wsL_law := (lk_r37 _ (List.mem_of_getElem? (i := 9) rfl))
theorem ml_X9_288 : Cond.methodLink RX9 288 yX9_isWord ∈ wsL_law := (lk_r37 _ (List.mem_of_getElem? (i := 12) rfl))
theorem ml_X9_272 : Cond.methodLink RX9 272 yJ0_length_8abf5 ∈ wsL_law := (lk_r37 _ (List.mem_of_getElem? (i := 16) rfl))
theorem ml_X9_277 : Cond.methodLink RX9 277 yJ0_charAt_5068e ∈ wsL_law := (lk_r37 _ (List.mem_of_getElem? (i := 17) rfl))
theorem ml_X9_292 : Cond.methodLink RX9 292 yX9_isDigit ∈ wsL_law := (lk_r37 _ (List.mem_of_getElem? (i := 18) rfl))
theorem ml_X9_295 : Cond.methodLink RX9 295 yX9_areDigits ∈ wsL_law := (lk_r37 _ (List.mem_of_getElem? (i := 22) rfl))
theorem ml_X9_301 : Cond.methodLink RX9 301 yX9_setOf ∈ wsL_law := (lk_r38 _ (List.mem_of_getElem? (i := 1) rfl))
theorem ml_X9_304 : Cond.methodLink RX9 304 yX9_numberOf ∈ wsL_law := (lk_r38 _ (List.mem_of_getElem? (i := 5) rfl))
theorem ml_X9_327 : Cond.methodLink RX9 327 yX9_isDone ∈ wsL_law := (lk_r38 _ (List.mem_of_getElem? (i := 9) rfl))
theorem ml_X9_310 : Cond.methodLink RX9 310 yX9_make ∈ wsL_law := (lk_r38 _ (List.mem_of_getElem? (i := 13) rfl))
theorem ml_X9_313 : Cond.methodLink RX9 313 yX9_bodies ∈ wsL_law := (lk_r38 _ (List.mem_of_getElem? (i := 14) rfl))
theorem ml_X9_316 : Cond.methodLink RX9 316 yX9_keep ∈ wsL_law := (lk_r38 _ (List.mem_of_getElem? (i := 15) rfl))
theorem ml_X9_318 : Cond.methodLink RX9 318 yX9_flip ∈ wsL_law := (lk_r38 _ (List.mem_of_getElem? (i := 16) rfl))
theorem ml_X9_320 : Cond.methodLink RX9 320 yX9_take ∈ wsL_law := (lk_r38 _ (List.mem_of_getElem? (i := 17) rfl))
theorem ml_X9_322 : Cond.methodLink RX9 322 yX9_body ∈ wsL_law := (lk_r38 _ (List.mem_of_getElem? (i := 18) rfl))
theorem ml_L_129 : Cond.methodLink RL 129 yX8_spell ∈ wsL_law := (lk_r38 _ (List.mem_of_getElem? (i := 19) rfl))
theorem ml_X8_255 : Cond.methodLink RX8 255 yX8_write ∈ wsL_law := (lk_r39 _ (List.mem_of_getElem? (i := 0) rfl))
theorem ml_X8_258 : Cond.methodLink RX8 258 yX8_writePoints ∈ wsL_law := (lk_r39 _ (List.mem_of_getElem? (i := 4) rfl))
theorem ml_L_132 : Cond.methodLink RL 132 yX9_spell ∈ wsL_law := (lk_r39 _ (List.mem_of_getElem? (i := 8) rfl))
theorem ml_X9_333 : Cond.methodLink RX9 333 yX9_writes ∈ wsL_law := (lk_r39 _ (List.mem_of_getElem? (i := 13) rfl))
theorem ml_L_133 : Cond.methodLink RL 133 yX8_paper ∈ wsL_law := (lk_r39 _ (List.mem_of_getElem? (i := 17) rfl))
theorem ml_L_136 : Cond.methodLink RL 136 yX9_paper ∈ wsL_law := (lk_r39 _ (List.mem_of_getElem? (i := 21) rfl))
theorem ml_L_137 : Cond.methodLink RL 137 yX8_judge ∈ wsL_law := (lk_r40 _ (List.mem_of_getElem? (i := 1) rfl))
theorem ml_L_140 : Cond.methodLink RL 140 yX9_judge ∈ wsL_law := (lk_r40 _ (List.mem_of_getElem? (i := 5) rfl))
theorem ml_L_141 : Cond.methodLink RL 141 yX8_list ∈ wsL_law := (lk_r40 _ (List.mem_of_getElem? (i := 9) rfl))
theorem ml_X8_261 : Cond.methodLink RX8 261 yX3_start ∈ wsL_law := (lk_r40 _ (List.mem_of_getElem? (i := 13) rfl))
theorem ml_X3_28 : Cond.methodLink RX3 28 yX3_set ∈ wsL_law := (lk_r40 _ (List.mem_of_getElem? (i := 17) rfl))
theorem ml_L_144 : Cond.methodLink RL 144 yX9_list ∈ wsL_law := (lk_r40 _ (List.mem_of_getElem? (i := 21) rfl))
theorem ml_L_145 : Cond.methodLink RL 145 yX8_put ∈ wsL_law := (lk_r41 _ (List.mem_of_getElem? (i := 1) rfl))
theorem ml_X8_265 : Cond.methodLink RX8 265 yX3_set ∈ wsL_law := (lk_r41 _ (List.mem_of_getElem? (i := 5) rfl))
theorem ml_L_148 : Cond.methodLink RL 148 yX9_put ∈ wsL_law := (lk_r41 _ (List.mem_of_getElem? (i := 6) rfl))
theorem ml_X9_345 : Cond.methodLink RX9 345 yX9_isPlace ∈ wsL_law := (lk_r41 _ (List.mem_of_getElem? (i := 10) rfl))
theorem ml_L_149 : Cond.methodLink RL 149 yX8_get ∈ wsL_law := (lk_r41 _ (List.mem_of_getElem? (i := 14) rfl))
theorem ml_L_153 : Cond.methodLink RL 153 yX9_get ∈ wsL_law := (lk_r41 _ (List.mem_of_getElem? (i := 19) rfl))
theorem ml_L_154 : Cond.methodLink RL 154 yX8_copy ∈ wsL_law := (lk_r42 _ (List.mem_of_getElem? (i := 0) rfl))
theorem ml_X8_271 : Cond.methodLink RX8 271 yX3_move ∈ wsL_law := (lk_r42 _ (List.mem_of_getElem? (i := 4) rfl))
theorem ml_L_158 : Cond.methodLink RL 158 yX9_copy ∈ wsL_law := (lk_r42 _ (List.mem_of_getElem? (i := 9) rfl))
theorem ml_X9_350 : Cond.methodLink RX9 350 yX9_isSpan ∈ wsL_law := (lk_r42 _ (List.mem_of_getElem? (i := 13) rfl))
theorem ml_L_159 : Cond.methodLink RL 159 yX8_image ∈ wsL_law := (lk_r42 _ (List.mem_of_getElem? (i := 17) rfl))
theorem ml_L_162 : Cond.methodLink RL 162 yX9_image ∈ wsL_law := (lk_r42 _ (List.mem_of_getElem? (i := 23) rfl))
theorem ml_L_163 : Cond.methodLink RL 163 yX8_undo ∈ wsL_law := (lk_r43 _ (List.mem_of_getElem? (i := 6) rfl))
theorem ml_L_166 : Cond.methodLink RL 166 yX9_undo ∈ wsL_law := (lk_r43 _ (List.mem_of_getElem? (i := 10) rfl))
theorem ml_L_167 : Cond.methodLink RL 167 yX8_count ∈ wsL_law := (lk_r43 _ (List.mem_of_getElem? (i := 14) rfl))
theorem ml_L_170 : Cond.methodLink RL 170 yX9_count ∈ wsL_law := (lk_r43 _ (List.mem_of_getElem? (i := 18) rfl))
theorem fl_X8_12 : FLK RX8 12 8 0 := ⟨RX8, TX8, 15, rfl, by decide, inlX8, Or.inl (lk_r1 _ (List.mem_of_getElem? (i := 15) rfl))⟩
theorem fl_X8_18 : FLK RX8 18 8 1 := ⟨RX8, TX8, 15, rfl, by decide, inlX8, Or.inl (lk_r1 _ (List.mem_of_getElem? (i := 16) rfl))⟩
theorem fl_X8_21 : FLK RX8 21 8 2 := ⟨RX8, TX8, 15, rfl, by decide, inlX8, Or.inl (lk_r1 _ (List.mem_of_getElem? (i := 18) rfl))⟩
theorem fl_X8_28 : FLK RX8 28 8 3 := ⟨RX8, TX8, 15, rfl, by decide, inlX8, Or.inl (lk_r1 _ (List.mem_of_getElem? (i := 22) rfl))⟩
theorem fl_X8_35 : FLK RX8 35 8 4 := ⟨RX8, TX8, 15, rfl, by decide, inlX8, Or.inl (lk_r2 _ (List.mem_of_getElem? (i := 2) rfl))⟩
theorem fl_X8_39 : FLK RX8 39 8 5 := ⟨RX8, TX8, 15, rfl, by decide, inlX8, Or.inl (lk_r2 _ (List.mem_of_getElem? (i := 3) rfl))⟩
theorem fl_X8_45 : FLK RX8 45 8 8 := ⟨RX8, TX8, 15, rfl, by decide, inlX8, Or.inl (lk_r2 _ (List.mem_of_getElem? (i := 7) rfl))⟩
theorem fl_X8_52 : FLK RX8 52 8 9 := ⟨RX8, TX8, 15, rfl, by decide, inlX8, Or.inl (lk_r2 _ (List.mem_of_getElem? (i := 11) rfl))⟩
theorem fl_X8_59 : FLK RX8 59 8 10 := ⟨RX8, TX8, 15, rfl, by decide, inlX8, Or.inl (lk_r2 _ (List.mem_of_getElem? (i := 15) rfl))⟩
theorem fl_X8_66 : FLK RX8 66 8 11 := ⟨RX8, TX8, 15, rfl, by decide, inlX8, Or.inl (lk_r2 _ (List.mem_of_getElem? (i := 19) rfl))⟩
theorem fl_X8_73 : FLK RX8 73 8 12 := ⟨RX8, TX8, 15, rfl, by decide, inlX8, Or.inl (lk_r2 _ (List.mem_of_getElem? (i := 23) rfl))⟩
theorem fl_X8_77 : FLK RX8 77 8 13 := ⟨RX8, TX8, 15, rfl, by decide, inlX8, Or.inl (lk_r3 _ (List.mem_of_getElem? (i := 1) rfl))⟩
theorem fl_X0_9 : FLK RX0 9 0 0 := ⟨RX0, TX0, 2, rfl, by decide, inlX0, Or.inl (lk_r3 _ (List.mem_of_getElem? (i := 6) rfl))⟩
theorem fp_X0_9 : FLP RX0 9 0 0 .int := ⟨RX0, TX0, 2, rfl, by decide, inlX0, Or.inl (lk_r3 _ (List.mem_of_getElem? (i := 6) rfl)), ⟨tyX0, tyX0_ok⟩, nmX0, rfl, by decide +kernel⟩
theorem fl_X0_15 : FLK RX0 15 0 1 := ⟨RX0, TX0, 2, rfl, by decide, inlX0, Or.inl (lk_r3 _ (List.mem_of_getElem? (i := 7) rfl))⟩
theorem fl_X2_11 : FLK RX2 11 2 0 := ⟨RX2, TX2, 3, rfl, by decide, inlX2, Or.inl (lk_r3 _ (List.mem_of_getElem? (i := 13) rfl))⟩
theorem fl_X5_11 : FLK RX5 11 5 0 := ⟨RX5, TX5, 2, rfl, by decide, inlX5, Or.inl (lk_r3 _ (List.mem_of_getElem? (i := 20) rfl))⟩
theorem fl_X7_9 : FLK RX7 9 7 0 := ⟨RX7, TX7, 6, rfl, by decide, inlX7, Or.inl (lk_r4 _ (List.mem_of_getElem? (i := 1) rfl))⟩
theorem fl_X7_15 : FLK RX7 15 7 1 := ⟨RX7, TX7, 6, rfl, by decide, inlX7, Or.inl (lk_r4 _ (List.mem_of_getElem? (i := 2) rfl))⟩
theorem fl_X7_18 : FLK RX7 18 7 2 := ⟨RX7, TX7, 6, rfl, by decide, inlX7, Or.inl (lk_r4 _ (List.mem_of_getElem? (i := 3) rfl))⟩
theorem fl_X7_21 : FLK RX7 21 7 3 := ⟨RX7, TX7, 6, rfl, by decide, inlX7, Or.inl (lk_r4 _ (List.mem_of_getElem? (i := 4) rfl))⟩
theorem fl_X4_12 : FLK RX4 12 4 0 := ⟨RX4, TX4, 4, rfl, by decide, inlX4, Or.inl (lk_r4 _ (List.mem_of_getElem? (i := 9) rfl))⟩
theorem fl_X4_18 : FLK RX4 18 4 1 := ⟨RX4, TX4, 4, rfl, by decide, inlX4, Or.inl (lk_r4 _ (List.mem_of_getElem? (i := 10) rfl))⟩
theorem fl_X1_9 : FLK RX1 9 1 0 := ⟨RX1, TX1, 3, rfl, by decide, inlX1, Or.inl (lk_r4 _ (List.mem_of_getElem? (i := 15) rfl))⟩
theorem fl_X3_9 : FLK RX3 9 3 0 := ⟨RX3, TX3, 2, rfl, by decide, inlX3, Or.inl (lk_r4 _ (List.mem_of_getElem? (i := 20) rfl))⟩
theorem fl_X3_15 : FLK RX3 15 3 1 := ⟨RX3, TX3, 2, rfl, by decide, inlX3, Or.inl (lk_r4 _ (List.mem_of_getElem? (i := 21) rfl))⟩
theorem fl_X6_9 : FLK RX6 9 6 0 := ⟨RX6, TX6, 6, rfl, by decide, inlX6, Or.inl (lk_r5 _ (List.mem_of_getElem? (i := 1) rfl))⟩
theorem fl_X6_15 : FLK RX6 15 6 2 := ⟨RX6, TX6, 6, rfl, by decide, inlX6, Or.inl (lk_r5 _ (List.mem_of_getElem? (i := 2) rfl))⟩
theorem fl_X6_19 : FLK RX6 19 6 3 := ⟨RX6, TX6, 6, rfl, by decide, inlX6, Or.inl (lk_r5 _ (List.mem_of_getElem? (i := 3) rfl))⟩
theorem fl_X6_22 : FLK RX6 22 6 4 := ⟨RX6, TX6, 6, rfl, by decide, inlX6, Or.inl (lk_r5 _ (List.mem_of_getElem? (i := 4) rfl))⟩
theorem fl_X9_9 : FLK RX9 9 9 0 := ⟨RX9, TX9, 34, rfl, by decide, inlX9, Or.inl (lk_r5 _ (List.mem_of_getElem? (i := 9) rfl))⟩
theorem fp_X9_9 : FLP RX9 9 9 0 .int := ⟨RX9, TX9, 34, rfl, by decide, inlX9, Or.inl (lk_r5 _ (List.mem_of_getElem? (i := 9) rfl)), ⟨tyX9, tyX9_ok⟩, nmX9, rfl, by decide +kernel⟩
theorem fl_X9_15 : FLK RX9 15 9 1 := ⟨RX9, TX9, 34, rfl, by decide, inlX9, Or.inl (lk_r5 _ (List.mem_of_getElem? (i := 11) rfl))⟩
theorem fl_X9_19 : FLK RX9 19 9 2 := ⟨RX9, TX9, 34, rfl, by decide, inlX9, Or.inl (lk_r5 _ (List.mem_of_getElem? (i := 12) rfl))⟩
theorem fl_X9_22 : FLK RX9 22 9 3 := ⟨RX9, TX9, 34, rfl, by decide, inlX9, Or.inl (lk_r5 _ (List.mem_of_getElem? (i := 13) rfl))⟩
theorem fl_X9_28 : FLK RX9 28 9 5 := ⟨RX9, TX9, 34, rfl, by decide, inlX9, Or.inl (lk_r5 _ (List.mem_of_getElem? (i := 15) rfl))⟩
theorem fl_X9_31 : FLK RX9 31 9 7 := ⟨RX9, TX9, 34, rfl, by decide, inlX9, Or.inl (lk_r5 _ (List.mem_of_getElem? (i := 16) rfl))⟩
theorem fl_X9_34 : FLK RX9 34 9 8 := ⟨RX9, TX9, 34, rfl, by decide, inlX9, Or.inl (lk_r5 _ (List.mem_of_getElem? (i := 17) rfl))⟩
theorem fl_X9_39 : FLK RX9 39 9 9 := ⟨RX9, TX9, 34, rfl, by decide, inlX9, Or.inl (lk_r5 _ (List.mem_of_getElem? (i := 19) rfl))⟩
theorem fl_X9_42 : FLK RX9 42 9 10 := ⟨RX9, TX9, 34, rfl, by decide, inlX9, Or.inl (lk_r5 _ (List.mem_of_getElem? (i := 20) rfl))⟩
theorem fl_X9_45 : FLK RX9 45 9 11 := ⟨RX9, TX9, 34, rfl, by decide, inlX9, Or.inl (lk_r5 _ (List.mem_of_getElem? (i := 21) rfl))⟩
theorem fl_X9_48 : FLK RX9 48 9 12 := ⟨RX9, TX9, 34, rfl, by decide, inlX9, Or.inl (lk_r5 _ (List.mem_of_getElem? (i := 22) rfl))⟩
theorem fl_X9_51 : FLK RX9 51 9 13 := ⟨RX9, TX9, 34, rfl, by decide, inlX9, Or.inl (lk_r5 _ (List.mem_of_getElem? (i := 23) rfl))⟩
theorem fl_X9_54 : FLK RX9 54 9 14 := ⟨RX9, TX9, 34, rfl, by decide, inlX9, Or.inl (lk_r6 _ (List.mem_of_getElem? (i := 0) rfl))⟩
theorem fl_X9_57 : FLK RX9 57 9 16 := ⟨RX9, TX9, 34, rfl, by decide, inlX9, Or.inl (lk_r6 _ (List.mem_of_getElem? (i := 1) rfl))⟩
theorem fl_X9_60 : FLK RX9 60 9 17 := ⟨RX9, TX9, 34, rfl, by decide, inlX9, Or.inl (lk_r6 _ (List.mem_of_getElem? (i := 2) rfl))⟩
theorem fl_X9_63 : FLK RX9 63 9 18 := ⟨RX9, TX9, 34, rfl, by decide, inlX9, Or.inl (lk_r6 _ (List.mem_of_getElem? (i := 3) rfl))⟩
theorem fl_X9_67 : FLK RX9 67 9 22 := ⟨RX9, TX9, 34, rfl, by decide, inlX9, Or.inl (lk_r6 _ (List.mem_of_getElem? (i := 4) rfl))⟩
theorem fl_X9_70 : FLK RX9 70 9 23 := ⟨RX9, TX9, 34, rfl, by decide, inlX9, Or.inl (lk_r6 _ (List.mem_of_getElem? (i := 5) rfl))⟩
theorem fl_X9_73 : FLK RX9 73 9 24 := ⟨RX9, TX9, 34, rfl, by decide, inlX9, Or.inl (lk_r6 _ (List.mem_of_getElem? (i := 6) rfl))⟩
theorem fl_X9_76 : FLK RX9 76 9 26 := ⟨RX9, TX9, 34, rfl, by decide, inlX9, Or.inl (lk_r6 _ (List.mem_of_getElem? (i := 7) rfl))⟩
theorem fl_X9_79 : FLK RX9 79 9 27 := ⟨RX9, TX9, 34, rfl, by decide, inlX9, Or.inl (lk_r6 _ (List.mem_of_getElem? (i := 8) rfl))⟩
theorem fl_X9_82 : FLK RX9 82 9 31 := ⟨RX9, TX9, 34, rfl, by decide, inlX9, Or.inl (lk_r6 _ (List.mem_of_getElem? (i := 9) rfl))⟩
theorem fl_X9_85 : FLK RX9 85 9 32 := ⟨RX9, TX9, 34, rfl, by decide, inlX9, Or.inl (lk_r6 _ (List.mem_of_getElem? (i := 10) rfl))⟩
theorem fl_X9_88 : FLK RX9 88 9 33 := ⟨RX9, TX9, 34, rfl, by decide, inlX9, Or.inl (lk_r6 _ (List.mem_of_getElem? (i := 11) rfl))⟩
theorem fl_X2_26 : FLK RX2 26 2 2 := ⟨RX2, TX2, 3, rfl, by decide, inlX2, Or.inl (lk_r7 _ (List.mem_of_getElem? (i := 0) rfl))⟩
theorem fp_X2_26 : FLP RX2 26 2 2 .int := ⟨RX2, TX2, 3, rfl, by decide, inlX2, Or.inl (lk_r7 _ (List.mem_of_getElem? (i := 0) rfl)), ⟨tyX2, tyX2_ok⟩, nmX2, rfl, by decide +kernel⟩
theorem fl_X9_120 : FLK RX9 120 9 6 := ⟨RX9, TX9, 34, rfl, by decide, inlX9, Or.inl (lk_r7 _ (List.mem_of_getElem? (i := 5) rfl))⟩
theorem fp_X9_120 : FLP RX9 120 9 6 .int := ⟨RX9, TX9, 34, rfl, by decide, inlX9, Or.inl (lk_r7 _ (List.mem_of_getElem? (i := 5) rfl)), ⟨tyX9, tyX9_ok⟩, nmX9, rfl, by decide +kernel⟩
theorem fl_X2_18 : FLK RX2 18 2 1 := ⟨RX2, TX2, 3, rfl, by decide, inlX2, Or.inl (lk_r7 _ (List.mem_of_getElem? (i := 17) rfl))⟩
theorem fp_X2_18 : FLP RX2 18 2 1 .int := ⟨RX2, TX2, 3, rfl, by decide, inlX2, Or.inl (lk_r7 _ (List.mem_of_getElem? (i := 17) rfl)), ⟨tyX2, tyX2_ok⟩, nmX2, rfl, by decide +kernel⟩
theorem fl_X7_31 : FLK RX7 31 7 4 := ⟨RX7, TX7, 6, rfl, by decide, inlX7, Or.inl (lk_r13 _ (List.mem_of_getElem? (i := 17) rfl))⟩
theorem fp_X7_31 : FLP RX7 31 7 4 .int := ⟨RX7, TX7, 6, rfl, by decide, inlX7, Or.inl (lk_r13 _ (List.mem_of_getElem? (i := 17) rfl)), ⟨tyX7, tyX7_ok⟩, nmX7, rfl, by decide +kernel⟩
theorem fl_X7_30 : FLK RX7 30 7 5 := ⟨RX7, TX7, 6, rfl, by decide, inlX7, Or.inl (lk_r13 _ (List.mem_of_getElem? (i := 22) rfl))⟩
theorem fp_X7_30 : FLP RX7 30 7 5 .int := ⟨RX7, TX7, 6, rfl, by decide, inlX7, Or.inl (lk_r13 _ (List.mem_of_getElem? (i := 22) rfl)), ⟨tyX7, tyX7_ok⟩, nmX7, rfl, by decide +kernel⟩
theorem fl_X9_107 : FLK RX9 107 9 4 := ⟨RX9, TX9, 34, rfl, by decide, inlX9, Or.inl (lk_r15 _ (List.mem_of_getElem? (i := 1) rfl))⟩
theorem fp_X9_107 : FLP RX9 107 9 4 .int := ⟨RX9, TX9, 34, rfl, by decide, inlX9, Or.inl (lk_r15 _ (List.mem_of_getElem? (i := 1) rfl)), ⟨tyX9, tyX9_ok⟩, nmX9, rfl, by decide +kernel⟩
theorem fl_X5_18 : FLK RX5 18 5 1 := ⟨RX5, TX5, 2, rfl, by decide, inlX5, Or.inl (lk_r26 _ (List.mem_of_getElem? (i := 11) rfl))⟩
theorem fp_X5_18 : FLP RX5 18 5 1 .int := ⟨RX5, TX5, 2, rfl, by decide, inlX5, Or.inl (lk_r26 _ (List.mem_of_getElem? (i := 11) rfl)), ⟨tyX5, tyX5_ok⟩, nmX5, rfl, by decide +kernel⟩
theorem fl_X9_214 : FLK RX9 214 9 15 := ⟨RX9, TX9, 34, rfl, by decide, inlX9, Or.inl (lk_r26 _ (List.mem_of_getElem? (i := 17) rfl))⟩
theorem fp_X9_214 : FLP RX9 214 9 15 .int := ⟨RX9, TX9, 34, rfl, by decide, inlX9, Or.inl (lk_r26 _ (List.mem_of_getElem? (i := 17) rfl)), ⟨tyX9, tyX9_ok⟩, nmX9, rfl, by decide +kernel⟩
theorem fl_X4_26 : FLK RX4 26 4 2 := ⟨RX4, TX4, 4, rfl, by decide, inlX4, Or.inl (lk_r28 _ (List.mem_of_getElem? (i := 2) rfl))⟩
theorem fp_X4_26 : FLP RX4 26 4 2 (.object "FaceFlips$Heap") := ⟨RX4, TX4, 4, rfl, by decide, inlX4, Or.inl (lk_r28 _ (List.mem_of_getElem? (i := 2) rfl)), ⟨tyX4, tyX4_ok⟩, nmX4, rfl, by decide +kernel⟩
theorem fl_X4_29 : FLK RX4 29 4 3 := ⟨RX4, TX4, 4, rfl, by decide, inlX4, Or.inl (lk_r28 _ (List.mem_of_getElem? (i := 3) rfl))⟩
theorem fp_X4_29 : FLP RX4 29 4 3 .int := ⟨RX4, TX4, 4, rfl, by decide, inlX4, Or.inl (lk_r28 _ (List.mem_of_getElem? (i := 3) rfl)), ⟨tyX4, tyX4_ok⟩, nmX4, rfl, by decide +kernel⟩
theorem fl_X1_25 : FLK RX1 25 1 1 := ⟨RX1, TX1, 3, rfl, by decide, inlX1, Or.inl (lk_r29 _ (List.mem_of_getElem? (i := 15) rfl))⟩
theorem fp_X1_25 : FLP RX1 25 1 1 (.object "FaceFlips$Heap") := ⟨RX1, TX1, 3, rfl, by decide, inlX1, Or.inl (lk_r29 _ (List.mem_of_getElem? (i := 15) rfl)), ⟨tyX1, tyX1_ok⟩, nmX1, rfl, by decide +kernel⟩
theorem fl_X1_29 : FLK RX1 29 1 2 := ⟨RX1, TX1, 3, rfl, by decide, inlX1, Or.inl (lk_r29 _ (List.mem_of_getElem? (i := 16) rfl))⟩
theorem fp_X1_29 : FLP RX1 29 1 2 (.object "FaceFlips$Heap") := ⟨RX1, TX1, 3, rfl, by decide, inlX1, Or.inl (lk_r29 _ (List.mem_of_getElem? (i := 16) rfl)), ⟨tyX1, tyX1_ok⟩, nmX1, rfl, by decide +kernel⟩
theorem fl_X6_25 : FLK RX6 25 6 1 := ⟨RX6, TX6, 6, rfl, by decide, inlX6, Or.inl (lk_r32 _ (List.mem_of_getElem? (i := 14) rfl))⟩
theorem fp_X6_25 : FLP RX6 25 6 1 .int := ⟨RX6, TX6, 6, rfl, by decide, inlX6, Or.inl (lk_r32 _ (List.mem_of_getElem? (i := 14) rfl)), ⟨tyX6, tyX6_ok⟩, nmX6, rfl, by decide +kernel⟩
theorem fl_X9_243 : FLK RX9 243 9 19 := ⟨RX9, TX9, 34, rfl, by decide, inlX9, Or.inl (lk_r32 _ (List.mem_of_getElem? (i := 19) rfl))⟩
theorem fp_X9_243 : FLP RX9 243 9 19 .int := ⟨RX9, TX9, 34, rfl, by decide, inlX9, Or.inl (lk_r32 _ (List.mem_of_getElem? (i := 19) rfl)), ⟨tyX9, tyX9_ok⟩, nmX9, rfl, by decide +kernel⟩
theorem fl_X6_29 : FLK RX6 29 6 5 := ⟨RX6, TX6, 6, rfl, by decide, inlX6, Or.inl (lk_r33 _ (List.mem_of_getElem? (i := 4) rfl))⟩
theorem fp_X6_29 : FLP RX6 29 6 5 .int := ⟨RX6, TX6, 6, rfl, by decide, inlX6, Or.inl (lk_r33 _ (List.mem_of_getElem? (i := 4) rfl)), ⟨tyX6, tyX6_ok⟩, nmX6, rfl, by decide +kernel⟩
theorem fl_X9_269 : FLK RX9 269 9 20 := ⟨RX9, TX9, 34, rfl, by decide, inlX9, Or.inl (lk_r36 _ (List.mem_of_getElem? (i := 19) rfl))⟩
theorem fp_X9_269 : FLP RX9 269 9 20 .int := ⟨RX9, TX9, 34, rfl, by decide, inlX9, Or.inl (lk_r36 _ (List.mem_of_getElem? (i := 19) rfl)), ⟨tyX9, tyX9_ok⟩, nmX9, rfl, by decide +kernel⟩
theorem fl_X9_298 : FLK RX9 298 9 21 := ⟨RX9, TX9, 34, rfl, by decide, inlX9, Or.inl (lk_r36 _ (List.mem_of_getElem? (i := 20) rfl))⟩
theorem fp_X9_298 : FLP RX9 298 9 21 .int := ⟨RX9, TX9, 34, rfl, by decide, inlX9, Or.inl (lk_r36 _ (List.mem_of_getElem? (i := 20) rfl)), ⟨tyX9, tyX9_ok⟩, nmX9, rfl, by decide +kernel⟩
theorem fl_X8_252 : FLK RX8 252 8 14 := ⟨RX8, TX8, 15, rfl, by decide, inlX8, Or.inl (lk_r38 _ (List.mem_of_getElem? (i := 23) rfl))⟩
theorem fp_X8_252 : FLP RX8 252 8 14 .int := ⟨RX8, TX8, 15, rfl, by decide, inlX8, Or.inl (lk_r38 _ (List.mem_of_getElem? (i := 23) rfl)), ⟨tyX8, tyX8_ok⟩, nmX8, rfl, by decide +kernel⟩
theorem fl_X9_330 : FLK RX9 330 9 25 := ⟨RX9, TX9, 34, rfl, by decide, inlX9, Or.inl (lk_r39 _ (List.mem_of_getElem? (i := 12) rfl))⟩
theorem fp_X9_330 : FLP RX9 330 9 25 .int := ⟨RX9, TX9, 34, rfl, by decide, inlX9, Or.inl (lk_r39 _ (List.mem_of_getElem? (i := 12) rfl)), ⟨tyX9, tyX9_ok⟩, nmX9, rfl, by decide +kernel⟩
theorem fl_X8_231 : FLK RX8 231 8 6 := ⟨RX8, TX8, 15, rfl, by decide, inlX8, Or.inl (lk_r42 _ (List.mem_of_getElem? (i := 21) rfl))⟩
theorem fp_X8_231 : FLP RX8 231 8 6 .int := ⟨RX8, TX8, 15, rfl, by decide, inlX8, Or.inl (lk_r42 _ (List.mem_of_getElem? (i := 21) rfl)), ⟨tyX8, tyX8_ok⟩, nmX8, rfl, by decide +kernel⟩
theorem fl_X8_234 : FLK RX8 234 8 7 := ⟨RX8, TX8, 15, rfl, by decide, inlX8, Or.inl (lk_r42 _ (List.mem_of_getElem? (i := 22) rfl))⟩
theorem fp_X8_234 : FLP RX8 234 8 7 .boolean := ⟨RX8, TX8, 15, rfl, by decide, inlX8, Or.inl (lk_r42 _ (List.mem_of_getElem? (i := 22) rfl)), ⟨tyX8, tyX8_ok⟩, nmX8, rfl, by decide +kernel⟩
theorem fl_X9_353 : FLK RX9 353 9 28 := ⟨RX9, TX9, 34, rfl, by decide, inlX9, Or.inl (lk_r43 _ (List.mem_of_getElem? (i := 3) rfl))⟩
theorem fp_X9_353 : FLP RX9 353 9 28 .boolean := ⟨RX9, TX9, 34, rfl, by decide, inlX9, Or.inl (lk_r43 _ (List.mem_of_getElem? (i := 3) rfl)), ⟨tyX9, tyX9_ok⟩, nmX9, rfl, by decide +kernel⟩
theorem fl_X9_357 : FLK RX9 357 9 29 := ⟨RX9, TX9, 34, rfl, by decide, inlX9, Or.inl (lk_r43 _ (List.mem_of_getElem? (i := 4) rfl))⟩
theorem fp_X9_357 : FLP RX9 357 9 29 .int := ⟨RX9, TX9, 34, rfl, by decide, inlX9, Or.inl (lk_r43 _ (List.mem_of_getElem? (i := 4) rfl)), ⟨tyX9, tyX9_ok⟩, nmX9, rfl, by decide +kernel⟩
theorem fl_X9_360 : FLK RX9 360 9 30 := ⟨RX9, TX9, 34, rfl, by decide, inlX9, Or.inl (lk_r43 _ (List.mem_of_getElem? (i := 5) rfl))⟩
theorem fp_X9_360 : FLP RX9 360 9 30 .int := ⟨RX9, TX9, 34, rfl, by decide, inlX9, Or.inl (lk_r43 _ (List.mem_of_getElem? (i := 5) rfl)), ⟨tyX9, tyX9_ok⟩, nmX9, rfl, by decide +kernel⟩
theorem fl_X8_202 : FLK RX8 202 2 2 := ⟨RX2, TX2, 3, rfl, by decide, inlX2, Or.inr (List.mem_of_getElem? (i := 0) rfl)⟩
theorem fp_X8_202 : FLP RX8 202 2 2 .int := ⟨RX2, TX2, 3, rfl, by decide, inlX2, Or.inr (List.mem_of_getElem? (i := 0) rfl), ⟨tyX2, tyX2_ok⟩, nmX2, rfl, by decide +kernel⟩
theorem fl_X8_211 : FLK RX8 211 5 1 := ⟨RX5, TX5, 2, rfl, by decide, inlX5, Or.inr (List.mem_of_getElem? (i := 1) rfl)⟩
theorem fp_X8_211 : FLP RX8 211 5 1 .int := ⟨RX5, TX5, 2, rfl, by decide, inlX5, Or.inr (List.mem_of_getElem? (i := 1) rfl), ⟨tyX5, tyX5_ok⟩, nmX5, rfl, by decide +kernel⟩
theorem fl_X8_221 : FLK RX8 221 4 1 := ⟨RX4, TX4, 4, rfl, by decide, inlX4, Or.inr (List.mem_of_getElem? (i := 2) rfl)⟩
theorem fl_X8_240 : FLK RX8 240 6 1 := ⟨RX6, TX6, 6, rfl, by decide, inlX6, Or.inr (List.mem_of_getElem? (i := 3) rfl)⟩
theorem fp_X8_240 : FLP RX8 240 6 1 .int := ⟨RX6, TX6, 6, rfl, by decide, inlX6, Or.inr (List.mem_of_getElem? (i := 3) rfl), ⟨tyX6, tyX6_ok⟩, nmX6, rfl, by decide +kernel⟩
theorem fl_X8_246 : FLK RX8 246 6 5 := ⟨RX6, TX6, 6, rfl, by decide, inlX6, Or.inr (List.mem_of_getElem? (i := 4) rfl)⟩
theorem fp_X8_246 : FLP RX8 246 6 5 .int := ⟨RX6, TX6, 6, rfl, by decide, inlX6, Or.inr (List.mem_of_getElem? (i := 4) rfl), ⟨tyX6, tyX6_ok⟩, nmX6, rfl, by decide +kernel⟩
theorem fl_X8_275 : FLK RX8 275 6 2 := ⟨RX6, TX6, 6, rfl, by decide, inlX6, Or.inr (List.mem_of_getElem? (i := 5) rfl)⟩
theorem fl_X8_81 : FLK RX8 81 0 0 := ⟨RX0, TX0, 2, rfl, by decide, inlX0, Or.inr (List.mem_of_getElem? (i := 6) rfl)⟩
theorem fp_X8_81 : FLP RX8 81 0 0 .int := ⟨RX0, TX0, 2, rfl, by decide, inlX0, Or.inr (List.mem_of_getElem? (i := 6) rfl), ⟨tyX0, tyX0_ok⟩, nmX0, rfl, by decide +kernel⟩
theorem fl_X1_15 : FLK RX1 15 0 0 := ⟨RX0, TX0, 2, rfl, by decide, inlX0, Or.inr (List.mem_of_getElem? (i := 7) rfl)⟩
theorem fp_X1_15 : FLP RX1 15 0 0 .int := ⟨RX0, TX0, 2, rfl, by decide, inlX0, Or.inr (List.mem_of_getElem? (i := 7) rfl), ⟨tyX0, tyX0_ok⟩, nmX0, rfl, by decide +kernel⟩
theorem fl_X1_40 : FLK RX1 40 0 1 := ⟨RX0, TX0, 2, rfl, by decide, inlX0, Or.inr (List.mem_of_getElem? (i := 8) rfl)⟩
theorem fl_X4_45 : FLK RX4 45 0 1 := ⟨RX0, TX0, 2, rfl, by decide, inlX0, Or.inr (List.mem_of_getElem? (i := 9) rfl)⟩
theorem fl_X4_48 : FLK RX4 48 0 0 := ⟨RX0, TX0, 2, rfl, by decide, inlX0, Or.inr (List.mem_of_getElem? (i := 10) rfl)⟩
theorem fp_X4_48 : FLP RX4 48 0 0 .int := ⟨RX0, TX0, 2, rfl, by decide, inlX0, Or.inr (List.mem_of_getElem? (i := 10) rfl), ⟨tyX0, tyX0_ok⟩, nmX0, rfl, by decide +kernel⟩
theorem fl_X7_24 : FLK RX7 24 0 0 := ⟨RX0, TX0, 2, rfl, by decide, inlX0, Or.inr (List.mem_of_getElem? (i := 13) rfl)⟩
theorem fp_X7_24 : FLP RX7 24 0 0 .int := ⟨RX0, TX0, 2, rfl, by decide, inlX0, Or.inr (List.mem_of_getElem? (i := 13) rfl), ⟨tyX0, tyX0_ok⟩, nmX0, rfl, by decide +kernel⟩
theorem kc_J6_265 : Cond.constant RJ6 265 (1431655765) ∈ wsL_law := (lk_r10 _ (List.mem_of_getElem? (i := 6) rfl))
theorem kc_J6_266 : Cond.constant RJ6 266 (858993459) ∈ wsL_law := (lk_r10 _ (List.mem_of_getElem? (i := 7) rfl))
theorem kc_J6_267 : Cond.constant RJ6 267 (252645135) ∈ wsL_law := (lk_r10 _ (List.mem_of_getElem? (i := 8) rfl))
theorem kc_X8_199 : Cond.constant RX8 199 (1103515245) ∈ wsL_law := (lk_r31 _ (List.mem_of_getElem? (i := 21) rfl))
theorem kc_X8_200 : Cond.constant RX8 200 (2147483647) ∈ wsL_law := (lk_r31 _ (List.mem_of_getElem? (i := 22) rfl))
theorem kc_X8_201 : Cond.constant RX8 201 (65536) ∈ wsL_law := (lk_r31 _ (List.mem_of_getElem? (i := 23) rfl))
theorem kc_X9_241 : Cond.constant RX9 241 (1103515245) ∈ wsL_law := (lk_r32 _ (List.mem_of_getElem? (i := 4) rfl))
theorem kc_X9_242 : Cond.constant RX9 242 (2147483647) ∈ wsL_law := (lk_r32 _ (List.mem_of_getElem? (i := 5) rfl))
theorem kc_X8_269 : Cond.constantLong RX8 269 (-9223372036854775808) ∈ wsL_law := (lk_r41 _ (List.mem_of_getElem? (i := 18) rfl))
theorem kc_X9_348 : Cond.constantLong RX9 348 (-9223372036854775808) ∈ wsL_law := (lk_r41 _ (List.mem_of_getElem? (i := 23) rfl))
