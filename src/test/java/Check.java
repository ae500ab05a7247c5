/** Compares answers with what is due, and tells those that are not. */
final class Check {
    interface Call {
        void run();
    }

    /** A call on a canopy that is not made yet. */
    interface Act {
        void on(ZipCanopy canopy);
    }

    private final String title;
    private int made;
    private int wrong;

    Check(String title) {
        this.title = title;
    }

    void same(String what, long got, long due) {
        made++;
        if (got != due) {
            tell(what + " answered " + got + ", due is " + due);
        }
    }

    void sameDouble(String what, double got, double due) {
        made++;
        if (got != due) {
            tell(what + " answered " + got + ", due is " + due);
        }
    }

    void isTrue(String what, boolean holds) {
        made++;
        if (!holds) {
            tell(what + " does not hold");
        }
    }

    /** The call throws exactly this kind, and changes nothing that the canopy tells. */
    void refuses(ZipCanopy canopy, Class<? extends RuntimeException> kind, String what, Call call) {
        made++;
        long before = canopy.digest();
        String thrown = "nothing";
        try {
            call.run();
        } catch (RuntimeException e) {
            thrown = e.getClass().getName();
        }
        if (!thrown.equals(kind.getName())) {
            tell(what + " threw " + thrown + ", due is " + kind.getName());
        }
        if (canopy.digest() != before) {
            tell(what + " changed something");
        }
    }

    /**
     * As above, and nothing hidden is changed either: a twin that never got the call has the same future, in which
     * trolleys come up again, riders take the ways that they have and give up when their patience ends.
     */
    void refusesWithoutTrace(Scenes.Scene scene, Class<? extends RuntimeException> kind, String what, Act act) {
        ZipCanopy canopy = scene.make();
        refuses(canopy, kind, what, () -> act.on(canopy));
        isTrue(what + " leaves the future as it was", Scenes.storyOf(canopy).equals(Scenes.storyOf(scene.make())));
    }

    /** A call that only tells something leaves no trace, either. */
    void leavesNoTrace(Scenes.Scene scene, String what, Act act) {
        ZipCanopy canopy = scene.make();
        act.on(canopy);
        isTrue(what + " changes nothing", Scenes.storyOf(canopy).equals(Scenes.storyOf(scene.make())));
    }

    private void tell(String text) {
        wrong++;
        System.out.println(title + ": " + text);
    }

    void end() {
        System.out.println(title + ": " + made + " checks, " + wrong + " wrong");
        if (wrong > 0) {
            System.exit(1);
        }
    }
}
