/-! WORDS of superclasses (written by wip/gen/words2.py) -/
theorem w_87 : (Jvm.Cond.superclass "NeverLike$Town" "java/lang/Object") ∈ m_T := mt_1 87 rfl rfl
theorem w_133 : (Jvm.Cond.superclass "NeverLike$Search" "java/lang/Object") ∈ m_T := mt_1 133 rfl rfl
theorem w_172 : (Jvm.Cond.superclass "NeverLike$Reader" "java/lang/Object") ∈ m_T := mt_1 172 rfl rfl
theorem w_350 : (Jvm.Cond.superclass "NeverLike$Text" "java/lang/Object") ∈ m_T := mt_2 110 rfl rfl
theorem w_391 : (Jvm.Cond.superclass "NeverLike" "java/lang/Object") ∈ m_T := mt_2 151 rfl rfl
theorem w_474 : (Jvm.Cond.superclass "NeverLike$Steep" "NeverLike$Painter") ∈ m_T := mt_2 234 rfl rfl
theorem w_483 : (Jvm.Cond.superclass "NeverLike$Shy" "NeverLike$Painter") ∈ m_T := mt_3 3 rfl rfl
theorem w_492 : (Jvm.Cond.superclass "NeverLike$Moody" "NeverLike$Steep") ∈ m_T := mt_3 12 rfl rfl
theorem w_501 : (Jvm.Cond.superclass "NeverLike$Old" "NeverLike$Shy") ∈ m_T := mt_3 21 rfl rfl
theorem w_510 : (Jvm.Cond.superclass "NeverLike$Green" "NeverLike$Shy") ∈ m_T := mt_3 30 rfl rfl
theorem w_515 : (Jvm.Cond.superclass "NeverLike$Painter" "java/lang/Object") ∈ m_T := mt_3 35 rfl rfl
theorem w_860 : (Jvm.Cond.superclass "NeverLike$Sheet" "java/lang/Object") ∈ m_T := mt_4 140 rfl rfl
theorem w_1039 : (Jvm.Cond.superclass "NeverLikeModel" "java/lang/Object") ∈ m_T := mt_5 79 rfl rfl
