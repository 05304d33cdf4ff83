/** Promises 38 to 40: the seed and images. */
public final class ImagesTest {
    private static final Due DUE = new Due("ImagesTest");
    private static final String SEA = "s3;l0 1 0 9 1 2;l1 2 3 30 3 4;w4,5;";

    public static void main(String[] args) {
        seeds();
        images();
        refused();
        withoutSea();
        DUE.end();
    }

    private static void seeds() {
        LinkedIsles x = new LinkedIsles();
        DUE.is("38: seed(2147483647)", 0, x.seed(2147483647));
        DUE.is("38: seed(-1)", Due.OUTSIDE, x.seed(-1));
        DUE.is("38: seed(least)", Due.OUTSIDE, x.seed(-2147483647 - 1));
        DUE.is("38: seed(0)", 2147483647, x.seed(0));
        DUE.is("38: seed(1)", 0, x.seed(1));
        LinkedIsles y = Due.isles(SEA);
        y.seed(2147483647);
        y.drift(1);
        long draw = (2147483647L * 1103515245L + 12345L) % 2147483648L;
        long next = draw / 65536 % 6 > 2 ? draw : (draw * 1103515245L + 12345L) % 2147483648L;
        DUE.is("38: a draw from the greatest", next, y.seed(0));
    }

    private static void images() {
        LinkedIsles x = Due.isles(SEA);
        x.seed(5);
        x.hour(2);
        x.hold(1, true);
        x.turn(1);
        x.mend(1);
        DUE.is("39: keep(0)", 1, x.keep(0));
        DUE.is("39: nothing can be undone", 0, x.told(12));
        DUE.is("39: undo(1)", Due.NOT, x.undo(1));
        String image = Due.all(x);
        x.seed(6);
        x.drift(9);
        x.undoLink(1);
        x.earn(7);
        x.hold(1, false);
        DUE.is("39: keep(1)", 1, x.keep(1));
        String other = Due.all(x);
        x.hour(3);
        x.mend(0);
        x.seed(88);
        DUE.is("40: goBack(0)", 1, x.goBack(0));
        DUE.unchanged("40: image 0", image, x);
        DUE.is("40: undo(1)", Due.NOT, x.undo(1));
        x.drift(5);
        DUE.is("40: goBack(1)", 1, x.goBack(1));
        DUE.unchanged("40: image 1", other, x);
        x.turn(0);
        DUE.is("40: goBack(0) again", 1, x.goBack(0));
        DUE.unchanged("40: image 0 again", image, x);
        x.hear(0, 1, true);
        x.write(0, 1);
        x.goBack(1);
        DUE.is("40: what was heard stays", 1, x.told(10));
        DUE.is("40: the book stays", 1, x.told(11));
        int turned = x.turn(0);
        x.keep(1);
        x.turn(0);
        x.goBack(1);
        DUE.is("39: keep(1) again", turned, x.link(0, 6));
    }

    private static void refused() {
        LinkedIsles x = Due.isles(SEA);
        x.hour(1);
        String before = Due.all(x);
        DUE.is("39: keep(2)", Due.UNKNOWN, x.keep(2));
        DUE.is("39: keep(-1)", Due.UNKNOWN, x.keep(-1));
        DUE.is("40: goBack(2)", Due.UNKNOWN, x.goBack(2));
        DUE.is("40: goBack(-1)", Due.UNKNOWN, x.goBack(-1));
        DUE.is("40: goBack(0)", Due.NOT, x.goBack(0));
        DUE.is("40: goBack(1)", Due.NOT, x.goBack(1));
        DUE.unchanged("39, 40: a refusal", before, x);
        x.keep(1);
        DUE.is("40: goBack(0), the other was kept", Due.NOT, x.goBack(0));
        Due.feed(x, SEA);
        x.sea();
        DUE.is("40: goBack(1) behind a text", Due.NOT, x.goBack(1));
    }

    private static void withoutSea() {
        LinkedIsles x = new LinkedIsles();
        x.seed(12);
        DUE.is("39: keep(0) without a sea", 1, x.keep(0));
        x.seed(13);
        DUE.is("40: goBack(0) without a sea", 1, x.goBack(0));
        DUE.is("40: the seed", 12, x.seed(0));
        DUE.is("40: silver", 0, x.told(5));
    }
}
