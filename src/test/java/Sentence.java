import java.io.IOException;
import java.io.UncheckedIOException;
import java.nio.file.Files;
import java.nio.file.Path;
import java.util.ArrayList;
import java.util.LinkedHashMap;
import java.util.List;
import java.util.Map;
import java.util.regex.Matcher;
import java.util.regex.Pattern;

/**
 * By which words of the document the answers that follow are due. The words must stand there, under the promise or the
 * part of the terms that is named, so that a sentence that is changed in the document is missed here. Run from the
 * project's folder.
 */
final class Sentence {
  private static final Path DOCUMENT = Path.of("../shared/DOC.md");
  private static final int PROMISES = 44, PARTS = 5;
  /** What a promise names as an answer of its own: not KIND as it stands within a sentence, nor NO NUMBER. */
  private static final Pattern ANSWERS = Pattern.compile("\\b(BAD|NO|FULL|NONE|NOTHING|KIND|INDEX|SIZE)(?=[:;.)])");

  private static final Map<String, String> SECTIONS = new LinkedHashMap<>();
  private static final Map<String, Integer> PROMISE_OF = new LinkedHashMap<>();
  private static final Map<String, List<String>> ASKED = new LinkedHashMap<>();
  private static String about = "";
  private static int askedBefore = -1;

  static {
    try {
      read(Files.readString(DOCUMENT));
    } catch (IOException e) {
      throw new UncheckedIOException(e);
    }
  }

  private Sentence() {
  }

  private static void read(String document) {
    for (String section : document.split("(?m)^## ")) {
      Matcher m = Pattern.compile("Promise (\\d+): (\\S+)(?s:.*)").matcher(section);
      if (m.matches()) {
        SECTIONS.put(m.group(1), section.substring(section.indexOf('\n')).trim());
        PROMISE_OF.put(m.group(2), Integer.valueOf(m.group(1)));
      } else if (section.startsWith("Terms")) {
        String[] parts = section.split("======== ");
        for (int part = 0; part < parts.length; part++) {
          SECTIONS.put("terms " + part, parts[part]);
        }
      } else if (section.startsWith("What it is")) {
        SECTIONS.put("what it is", section);
      }
    }
  }

  /** The answers that follow are due by such words of a part of the terms (0: what stands ahead of part 1). */
  static void ofTerms(int part, String words) {
    of("terms " + part, words);
  }

  /** The answers that follow are due by such words of a promise. */
  static void of(int promise, String words) {
    of(Integer.toString(promise), words);
  }

  /** Where nothing has been asked since the sentence before, the answers that follow are due by both. */
  static void of(String where, String words) {
    about = (Due.asked() == askedBefore ? about : "") + "(" + where + ": '" + words + "') ";
    Due.about(about);
    Due.that("the document says so there", SECTIONS.getOrDefault(where, "").contains(words));
    askedBefore = Due.asked();
    ASKED.computeIfAbsent(where, w -> new ArrayList<>()).add(words);
  }

  /** The number of the promise of a call. */
  static int promiseOf(String call) {
    return PROMISE_OF.getOrDefault(call, 0);
  }

  /** Each promise, each part, and each answer that a promise names, has been asked for. */
  static void allAreAsked() {
    Due.about("");
    for (int part = 0; part <= PARTS; part++) {
      Due.that("terms " + part + " are asked for", ASKED.containsKey("terms " + part));
    }
    for (int promise = 1; promise <= PROMISES; promise++) {
      List<String> asked = ASKED.getOrDefault(Integer.toString(promise), List.of());
      Due.that("promise " + promise + " is asked for", !asked.isEmpty());
      Matcher m = ANSWERS.matcher(SECTIONS.getOrDefault(Integer.toString(promise), ""));
      while (m.find()) {
        String answer = m.group(1);
        Due.that("promise " + promise + ": " + answer + " is asked for", asked.stream().anyMatch(words -> words.matches("(?s).*\\b" + answer + "\\b.*")));
      }
    }
  }
}
