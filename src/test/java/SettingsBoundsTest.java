/** The boundaries that the document names for settings: promises 9 to 11 and 25 to 27. */
public final class SettingsBoundsTest {
    private static final Checks CHECKS = new Checks("SettingsBoundsTest");

    public static void main(String[] args) {
        setBound();
        setHold();
        setJudge();
        looks();
        CHECKS.finish();
    }

    private static void refuses(SlowTunes tunes, int most, Checks.CallWith made) {
        for (int wrong : Checks.row(-1, most + 1, Integer.MIN_VALUE, Integer.MAX_VALUE)) {
            CHECKS.refused("the number " + wrong, tunes, Checks.BAD_NUMBER, () -> made.on(wrong));
        }
    }

    private static void setBound() {
        SlowTunes tunes = new SlowTunes();
        CHECKS.sentence("Promise 9", "Returns the previous bound");
        CHECKS.same("the first one", tunes.setBound(20), 20);
        CHECKS.sentence("Promise 9", "notes: 0 to 20");
        for (int notes = 20; notes >= 0; notes--) {
            CHECKS.same("ahead of " + notes, tunes.setBound(notes), Math.min(20, notes + 1));
            CHECKS.same("bound()", tunes.bound(), notes);
        }
        CHECKS.sentence("Promise 9", "Throws IllegalArgumentException if notes is out of range");
        refuses(tunes, 20, notes -> tunes.setBound(notes));
    }

    private static void setHold() {
        SlowTunes tunes = new SlowTunes();
        CHECKS.sentence("Promise 10", "Returns the previous price");
        CHECKS.same("the first one", tunes.setHold(50), 1);
        CHECKS.sentence("Promise 10", "price: 0 to 50");
        for (int price = 50; price >= 0; price--) {
            CHECKS.same("ahead of " + price, tunes.setHold(price), Math.min(50, price + 1));
            CHECKS.same("hold()", tunes.hold(), price);
        }
        CHECKS.sentence("Promise 10", "Throws IllegalArgumentException if price is out of range");
        refuses(tunes, 50, price -> tunes.setHold(price));
    }

    private static void setJudge() {
        SlowTunes tunes = new SlowTunes();
        CHECKS.sentence("Promise 11", "Returns the previous judge");
        CHECKS.same("the first one", tunes.setJudge(3), 0);
        CHECKS.sentence("Promise 11", "judge: 0 to 3");
        for (int judge = 3; judge >= 0; judge--) {
            CHECKS.same("ahead of " + judge, tunes.setJudge(judge), Math.min(3, judge + 1));
            CHECKS.same("judge()", tunes.judge(), judge);
        }
        CHECKS.sentence("Promise 11", "Throws IllegalArgumentException if judge is out of range");
        refuses(tunes, 3, judge -> tunes.setJudge(judge));
    }

    private static void looks() {
        SlowTunes tunes = new SlowTunes();
        CHECKS.sentence("Promise 25", "Returns the bound");
        CHECKS.same("at first", tunes.bound(), 20);
        tunes.setBound(0);
        CHECKS.same("the least one", tunes.bound(), 0);
        CHECKS.sentence("Promise 26", "Returns the price of a hold");
        CHECKS.same("at first", tunes.hold(), 1);
        tunes.setHold(50);
        CHECKS.same("the greatest one", tunes.hold(), 50);
        tunes.setHold(0);
        CHECKS.same("the least one", tunes.hold(), 0);
        CHECKS.sentence("Promise 27", "Returns the judge");
        CHECKS.same("at first", tunes.judge(), 0);
        tunes.setJudge(3);
        CHECKS.same("the greatest one", tunes.judge(), 3);
        CHECKS.same("the bound behind it", tunes.bound(), 0);
        CHECKS.same("the price behind it", tunes.hold(), 0);
    }
}
